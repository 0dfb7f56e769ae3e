-- the programme's breakages, the best strength, the least that breaks, the shocks a prop needs
theorem pq_15 {T : Nat} {w : qMem} (a1 a2 a3 : Int32) (H : pI T w) : ∃ w1 : qMem, qs_15 w a1 a2 a3 = some w1 ∧ pI (T + 2000) w1 := by
  obtain ⟨S, hW, hH, hR⟩ := H.1
  have hq := hW.2.2.1
  obtain ⟨w2, e2, k2, k3⟩ := pc_copy (h := 1) (h1 := 0) (by decide) (by decide) (by decide) hW hH
  obtain ⟨w5, e5, k5, k6⟩ := pc_perf (h := 1) (by decide) hW k2
  have w5f : ∀ c, (c < 19 ∨ 38 ≤ c) → w5 c = w c := fun c hc => by rw [k6 c (by omega), k3 c (by omega)]
  have h9 : w5 19 9 = sG (pfX S).1 4 := k5.2.2.2 4 (by decide)
  have h0 : w5 0 9 = sG S 4 := by rw [w5f 0 (by omega)]; exact hH.2.2.2 4 (by decide)
  have hR5 : pR (quw w5 238 7 0 239) S := by rw [pz_wr, pz_rn (by decide), w5f 239 (by omega)]; exact hR
  have hC : fX5_programmeBreaks w = some (sG (pfX S).1 4 - sG S 4, w5) := by
    unfold fX5_programmeBreaks
    rw [e2, pz_b, e5, pz_b2, h9, h0]
  unfold qs_15
  rw [hC, pz_b2]
  unfold fX6_programmeBreaks
  have e6 : quw w5 238 7 0 239 6 = nI (sQ S) := hR5.2.1
  rw [pz_nm, e6]
  by_cases z : sQ S = 0
  · refine ⟨quw w5 238 7 0, ?_, (pI_look H (fun c hc => w5f c (by omega)) 0 (pOb.rf _)).mo (by omega)⟩
    have ex : (pfX S).1 = S := by unfold pfX; rw [z]; rfl
    rw [if_pos (by rw [z]; rfl), pz_b2, ex, Int32.sub_self, if_pos rfl]
  · obtain ⟨w4, e4, t1, t2⟩ := pr_think (quw w5 238 7 0)
    have hR4 : pR (w4 239) S := by rw [t2 239 (by decide)]; exact hR5
    obtain ⟨w8, e8, s1, s2, s3⟩ := pr_perf hW z hR4
    obtain ⟨w11, e11, f1, f2⟩ := pr_forget w8
    refine ⟨w11, ?_, (pI_look H (fun c hc => w5f c (by omega)) 0 (w9 := w11) ⟨fun c h1 h2 h3 => by rw [f2 c h2, s2 c h1 h2, t2 c h3], fun k hk => by rw [f2 238 (by decide), s3 k hk, t2 238 (by decide)], fun k hk => by rw [f1 k hk, s2 241 (by decide) (by decide), t1 k hk]⟩).mo (by omega)⟩
    have g5 : w4 239 5 = sG S 4 := hR4.2.2.2 4 (by decide)
    have g8 : w8 239 5 = sG (pfX S).1 4 := s1.2.2.2 4 (by decide)
    rw [if_neg (nI_ne0 (by omega) (by omega)), e4, pz_b, pz_nm, e8, pz_b2, pz_nm, e11, pz_b, pz_b2, g5, g8, if_pos rfl]
-- best
def pBs (S : pSt) : Nat → Nat
  | 0 => 1
  | i + 1 => if pMa (sN S) (i + 2) (sP S) ≤ pMa (sN S) (pBs S i) (sP S) then pBs S i else i + 2
theorem pBs_le (S : pSt) : ∀ i, 1 ≤ pBs S i ∧ pBs S i ≤ i + 1
  | 0 => ⟨Nat.le_refl _, Nat.le_refl _⟩
  | i + 1 => by
    have := pBs_le S i
    simp only [pBs]; split <;> omega
theorem pc_bs {T : Nat} {S : pSt} (hW : pW T S) : ∀ (d i fuel : Nat) (w : qMem), i + d = 8 → d < fuel → pH w 0 S → ∃ w1 : qMem, fX5_best_L10 fuel w (nI (pBs S i)) (pMa (sN S) (pBs S i) (sP S)) (nI (i + 2)) = some (nI (pBs S 8), w1) ∧ ∀ c, (c < 19 ∨ 38 ≤ c) → w1 c = w c
  | 0, i, fuel + 1, w, e, _, H => by
    have e : i = 8 := by omega
    subst e
    refine ⟨w, ?_, fun _ _ => rfl⟩
    simp only [fX5_best_L10]
    rw [if_pos (by decide)]
  | d + 1, i, fuel + 1, w, e, hf, H => by
    obtain ⟨w5, e5, k5⟩ := pc_mt (a := i + 2) (by omega) hW H
    obtain ⟨w1, g1, g2⟩ := pc_bs hW d (i + 1) fuel w5 (by omega) (by omega) (ph_same hW (fun c _ h2 => k5 c (by omega)) H)
    refine ⟨w1, ?_, fun c hc => (g2 c hc).trans (k5 c hc)⟩
    simp only [fX5_best_L10, e5, pz_b2, pz_nm, nI_1]
    rw [if_neg (show ¬ (9 : Int32) < nI (i + 2) from nI_nlt (a := 9) (b := i + 2) (by omega) (by omega))]
    by_cases z : pMa (sN S) (i + 2) (sP S) ≤ pMa (sN S) (pBs S i) (sP S)
    · have eb : pBs S (i + 1) = pBs S i := if_pos z
      rw [eb] at g1
      rw [if_pos z]; exact g1
    · have eb : pBs S (i + 1) = i + 2 := if_neg z
      rw [eb] at g1
      rw [if_neg z]; exact g1
theorem pr_bs {T : Nat} {S : pSt} (hW : pW T S) : ∀ (d i fuel : Nat) (w : qMem), i + d = 8 → d < fuel → pR (w 239) S → ∃ w1 : qMem, fX6_best_L9 fuel w (nI (pBs S i)) (nI (i + 2)) = some (nI (pBs S 8), w1) ∧ pOb w w1
  | 0, i, fuel + 1, w, e, _, H => by
    have e : i = 8 := by omega
    subst e
    refine ⟨w, ?_, pOb.rf w⟩
    simp only [fX6_best_L9]
    rw [if_pos (by decide)]
  | d + 1, i, fuel + 1, w, e, hf, H => by
    obtain ⟨w5, e5, k5⟩ := pr_would (a := i + 2) 1 (by omega) hW H
    have hb := pBs_le S i
    obtain ⟨w6, e6, k6⟩ := pr_would (a := pBs S i) (w := w5) 1 (by omega) hW (pr_cg hW k5.2.2 H)
    have k56 := k5.tr k6
    obtain ⟨w1, g1, g2⟩ := pr_bs hW d (i + 1) fuel w6 (by omega) (by omega) (pr_cg hW k56.2.2 H)
    refine ⟨w1, ?_, k56.tr g2⟩
    simp only [fX6_best_L9, e5, e6, pz_b2, pz_nm, nI_1]
    rw [if_neg (show ¬ (9 : Int32) < nI (i + 2) from nI_nlt (a := 9) (b := i + 2) (by omega) (by omega)), if_neg (show ¬ (1 : Int32) = 0 by decide), if_neg (show ¬ (1 : Int32) = 0 by decide)]
    by_cases z : pMa (sN S) (i + 2) (sP S) ≤ pMa (sN S) (pBs S i) (sP S)
    · have eb : pBs S (i + 1) = pBs S i := if_pos z
      rw [eb] at g1
      rw [if_pos z]; exact g1
    · have eb : pBs S (i + 1) = i + 2 := if_neg z
      rw [eb] at g1
      rw [if_neg z]; exact g1
theorem pq_16 {T : Nat} {w : qMem} (a1 a2 a3 : Int32) (H : pI T w) : ∃ w1 : qMem, qs_16 w a1 a2 a3 = some w1 ∧ pI (T + 2000) w1 := by
  obtain ⟨S, hW, hH, hR⟩ := H.1
  obtain ⟨w2, e2, k2⟩ := pc_mt (a := 1) (by decide) hW hH
  obtain ⟨w3, e3, k3⟩ := pc_bs hW 8 0 100 w2 (by omega) (by omega) (ph_same hW (fun c _ h2 => k2 c (by omega)) hH)
  have kk : ∀ c, (c < 19 ∨ 38 ≤ c) → w3 c = w c := fun c hc => (k3 c hc).trans (k2 c hc)
  obtain ⟨w9, e9, k9⟩ := pr_bs hW 8 0 100 (quw w3 238 7 0) (by omega) (by omega) (by rw [pz_wr, pz_rn (by decide), kk 239 (by omega)]; exact hR)
  refine ⟨w9, ?_, (pI_look H (fun c hc => kk c (by omega)) 0 k9).mo (by omega)⟩
  have c1 : fX5_best w = some (nI (pBs S 8), w3) := by
    unfold fX5_best
    have e2' : fX5_marksInThought w 1 = some (pMa (sN S) 1 (sP S), w2) := e2
    rw [e2', pz_b2]; exact e3
  have c2 : fX6_best w3 = some (nI (pBs S 8), w9) := by
    unfold fX6_best
    rw [pz_nm]; exact e9
  unfold qs_16
  rw [c1, pz_b2, c2, pz_b2, if_pos rfl]
-- the least that breaks something
theorem pb_lb {T : Nat} {S : pSt} (hW : pW T S) : ∀ (d i : Nat), i + d = 10 → 1 ≤ i → ∃ t : Nat, (∀ (w : qMem) (fuel : Nat), d < fuel → pH w 0 S → ∃ w1 : qMem, fX5_leastBreaking_L2 fuel w (nI i) = some (if t = 0 then (4, 0, w1) else (0, nI t, w1)) ∧ ∀ c, (c < 19 ∨ 38 ≤ c) → w1 c = w c) ∧ ∀ (w : qMem) (fuel : Nat), d < fuel → pR (w 239) S → ∃ w1 : qMem, fX6_leastBreaking_L2 fuel w (nI i) = some (if t = 0 then (0, quw w1 238 7 1) else (nI t, quw w1 238 7 0)) ∧ pOb w w1
  | 0, i, e, _ => by
    have e : i = 10 := by omega
    subst e
    refine ⟨0, fun w fuel hf H => ?_, fun w fuel hf H => ?_⟩
    · match fuel, hf with
      | fuel + 1, _ =>
        refine ⟨w, ?_, fun _ _ => rfl⟩
        simp only [fX5_leastBreaking_L2]
        rw [if_pos (by decide)]; rfl
    · match fuel, hf with
      | fuel + 1, _ =>
        refine ⟨w, ?_, pOb.rf w⟩
        simp only [fX6_leastBreaking_L2]
        rw [if_pos (by decide), pr_fail, pz_b2]; rfl
  | d + 1, i, e, hi1 => by
    have n9 : ¬ (9 : Int32) < nI i := nI_nlt (a := 9) (b := i) (by omega) (by omega)
    by_cases z : pBr (sN S) i (sP S) ≤ 0
    · obtain ⟨t, g1, g2⟩ := pb_lb hW d (i + 1) (by omega) (by omega)
      refine ⟨t, fun w fuel hf H => ?_, fun w fuel hf H => ?_⟩
      · match fuel, hf with
        | fuel + 1, hf =>
          obtain ⟨w5, e5, k5⟩ := pc_bt (a := i) (by omega) hW H
          obtain ⟨w1, q1, q2⟩ := g1 w5 fuel (by omega) (ph_same hW (fun c _ h2 => k5 c (by omega)) H)
          refine ⟨w1, ?_, fun c hc => (q2 c hc).trans (k5 c hc)⟩
          simp only [fX5_leastBreaking_L2, e5, pz_b2, pz_nm, nI_1]
          rw [if_neg n9, if_pos z]; exact q1
      · match fuel, hf with
        | fuel + 1, hf =>
          obtain ⟨w5, e5, k5⟩ := pr_would (a := i) 0 (by omega) hW H
          obtain ⟨w1, q1, q2⟩ := g2 w5 fuel (by omega) (pr_cg hW k5.2.2 H)
          refine ⟨w1, ?_, k5.tr q2⟩
          simp only [fX6_leastBreaking_L2, e5, pz_b2, pz_nm, nI_1]
          rw [if_neg n9, if_pos trivial, if_pos z]; exact q1
    · by_cases i0 : i = 0
      · omega
      · refine ⟨i, fun w fuel hf H => ?_, fun w fuel hf H => ?_⟩
        · match fuel, hf with
          | fuel + 1, hf =>
            obtain ⟨w5, e5, k5⟩ := pc_bt (a := i) (by omega) hW H
            refine ⟨w5, ?_, k5⟩
            simp only [fX5_leastBreaking_L2, e5, pz_b2, pz_nm, nI_1]
            rw [if_neg n9, if_neg z, if_neg i0]
        · match fuel, hf with
          | fuel + 1, hf =>
            obtain ⟨w5, e5, k5⟩ := pr_would (a := i) 0 (by omega) hW H
            refine ⟨w5, ?_, k5⟩
            simp only [fX6_leastBreaking_L2, e5, pz_b2, pz_nm, nI_1]
            rw [if_neg n9, if_pos trivial, if_neg z, if_neg i0]
theorem pq_17 {T : Nat} {w : qMem} (a1 a2 a3 : Int32) (H : pI T w) : ∃ w1 : qMem, qs_17 w a1 a2 a3 = some w1 ∧ pI (T + 2000) w1 := by
  obtain ⟨S, hW, hH, hR⟩ := H.1
  obtain ⟨t, g1, g2⟩ := pb_lb hW 9 1 (by decide) (by decide)
  obtain ⟨w3, e3, k3⟩ := g1 w 100 (by decide) hH
  obtain ⟨w9, e9, k9⟩ := g2 w3 100 (by decide) (by rw [k3 239 (by omega)]; exact hR)
  have hI : ∀ v : Int32, pI T (quw w9 238 7 v) := fun v => pI_7 (pI_obs H (fun c c1 c2 => by rw [k9.1 c (by omega) (by omega) (by omega), k3 c (by omega)]) (fun k k1 k2 => by rw [k9.2.1 k k2, k3 238 (by omega)]) (fun k hk => by rw [k9.2.2 k hk, k3 239 (by omega)]) (fun c c1 => by rw [k9.1 c (by omega) (by omega) (by omega), k3 c (by omega)])) v
  have e3' : fX5_leastBreaking w = some (if t = 0 then (4, 0, w3) else (0, nI t, w3)) := e3
  have e9' : fX6_leastBreaking w3 = some (if t = 0 then (0, quw w9 238 7 1) else (nI t, quw w9 238 7 0)) := e9
  unfold qs_17 fL_leastBreaking
  rw [e3']
  by_cases z : t = 0
  · refine ⟨quw w9 238 7 1, ?_, (hI 1).mo (by omega)⟩
    rw [if_pos z] at e9' ⊢
    have : qlh [4] (0 : Int32) (some (4, 0, w3)) = some (1, 0, w3) := rfl
    rw [this, pz_bn, e9', pz_b2, fX6_thrown, pz_w, pz_b, if_pos rfl, if_neg (by decide)]
  · refine ⟨quw w9 238 7 0, ?_, (hI 0).mo (by omega)⟩
    rw [if_neg z] at e9' ⊢
    have : qlh [4] (0 : Int32) (some (0, nI t, w3)) = some (0, nI t, w3) := rfl
    rw [this, pz_bn, e9', pz_b2, fX6_thrown, pz_w, pz_b, if_pos rfl, if_pos rfl, if_pos rfl]
-- how many shocks break a prop
theorem pr_sfb {w : qMem} {i x fuel : Nat} (hi : i < 12) (h4 : w 239 (15 + 7 * i + 4) = 1) : ∃ w1 : qMem, fX6_shocksFor_L42 (fuel + 1) w (nI i) (nI x) = some (nI x, w1) ∧ (∀ k, k < 99 → w1 239 k = w 241 k) ∧ ∀ c, c ≠ 239 → w1 c = w c := by
  obtain ⟨w1, e1, f1, f2⟩ := pr_forget w
  refine ⟨w1, ?_, f1, f2⟩
  have hL : fX6_shocksFor_L74 w (nI i) (nI x) = some (nI x, w1) := by
    unfold fX6_shocksFor_L74
    rw [(pz_of_ hi).2.2.2.2.1, pz_b, h4, if_pos rfl, e1, pz_b, if_neg (by decide)]
  simp only [fX6_shocksFor_L42]
  rw [(pz_of_ hi).2.2.2.2.1, pz_b, h4, hL, if_neg (show ¬ (1 : Int32) = 0 by decide), ite_self]
theorem pb_sf {s i : Nat} (hs : s ≤ 9) : ∀ (d j T : Nat) (S : pSt), j + d = 30 → pW T S → i < sN S → sG S 0 = nI s → sP S i 4 = 0 → ∃ v : Int32, (∀ (w : qMem) (fuel : Nat), d < fuel → pH w 1 S → w 0 5 = nI s → ∃ w1 : qMem, fX5_shocksFor_L26 fuel w (nI i) (nI (j + 1)) = some (0, v, w1) ∧ ∀ c, (c < 19 ∨ 38 ≤ c) → w1 c = w c) ∧ ∀ (w : qMem) (fuel : Nat), d + 1 < fuel → pR (w 239) S → ∃ w1 : qMem, fX6_shocksFor_L42 fuel w (nI i) (nI j) = some (v, w1) ∧ (∀ k, k < 99 → w1 239 k = w 241 k) ∧ (∀ c, c ≠ 238 → c ≠ 239 → w1 c = w c) ∧ ∀ k, k ≠ 11 → w1 238 k = w 238 k
  | 0, j, T, S, e, hW, hi, hg, h4 => by
    have hn := hW.1
    have e : j = 30 := by omega
    subst e
    refine ⟨0, fun w fuel hf H h5 => ?_, fun w fuel hf H => ?_⟩
    · match fuel, hf with
      | fuel + 1, _ =>
        refine ⟨w, ?_, fun _ _ => rfl⟩
        simp only [fX5_shocksFor_L26]
        rw [if_pos (by decide)]
    · match fuel, hf with
      | fuel + 1, _ =>
        obtain ⟨w1, e1, f1, f2⟩ := pr_forget w
        refine ⟨w1, ?_, f1, fun c _ c2 => f2 c c2, fun k _ => by rw [f2 238 (by decide)]⟩
        have g4 : w 239 (15 + 7 * i + 4) = 0 := (H.1.2 i hi 4 (by decide)).trans h4
        simp only [fX6_shocksFor_L42]
        rw [if_pos (by decide)]
        unfold fX6_shocksFor_L74
        rw [(pz_of_ (by omega)).2.2.2.2.1, pz_b, g4, if_neg (by decide), e1, pz_b, if_pos rfl]
  | d + 1, j, T, S, e, hW, hi, hg, h4 => by
    have hn := hW.1
    have hW2 := sShk_W hs hW
    have n30 : ¬ (30 : Int32) < nI (j + 1) := nI_nlt (a := 30) (b := j + 1) (by omega) (by omega)
    have m30 : ¬ (30 : Int32) ≤ nI j := nI_ge (b := 30) (by omega) (by omega)
    have hb : sP (sShk s S) i 4 = 0 ∨ sP (sShk s S) i 4 = 1 := (hW2.2.1 i hi).b4
    have stepC : ∀ (w : qMem) (fuel : Nat), pH w 1 S → w 0 5 = nI s → ∃ w13 : qMem, fX5_shocksFor_L26 (fuel + 1) w (nI i) (nI (j + 1)) = (if sP (sShk s S) i 4 = 0 then fX5_shocksFor_L26 fuel w13 (nI i) (nI (j + 1 + 1)) else some (0, nI (j + 1), w13)) ∧ pH w13 1 (sShk s S) ∧ ∀ c, (c < 19 ∨ 38 ≤ c) → w13 c = w c := fun w fuel H h5 => by
      obtain ⟨w13, e13, k1, k2⟩ := pc_shock (h := 1) (by decide) hs hW H
      refine ⟨w13, ?_, k1, fun c hc => k2 c (by omega)⟩
      have g4 : w13 (19 * 1 + 2 + i) 4 = sP (sShk s S) i 4 := k1.1.2 i hi 4 (by decide)
      simp only [fX5_shocksFor_L26, pz_nm, nI_1]
      rw [if_neg n30, h5, e13, pz_b2, pz_at (h := 1) (by decide) hn hi k1.1.1, pz_b, if_pos (pz_P (by decide) (by omega)), g4]
    have stepR : ∀ (w : qMem) (fuel : Nat), pR (w 239) S → ∃ w26 : qMem, fX6_shocksFor_L42 (fuel + 1) w (nI i) (nI j) = fX6_shocksFor_L42 fuel w26 (nI i) (nI (j + 1)) ∧ pR (w26 239) (sShk s S) ∧ (∀ c, c ≠ 238 → c ≠ 239 → w26 c = w c) ∧ ∀ k, k ≠ 11 → w26 238 k = w 238 k := fun w fuel H => by
      obtain ⟨w26, e26, k1, k2, k3, _⟩ := pr_shock hs hW H
      refine ⟨w26, ?_, k1, k2, k3⟩
      have g4 : w 239 (15 + 7 * i + 4) = 0 := (H.1.2 i hi 4 (by decide)).trans h4
      have g1 : w 239 1 = nI s := (H.2.2.2 0 (by decide)).trans hg
      simp only [fX6_shocksFor_L42, pz_nm, nI_1]
      rw [if_neg m30, (pz_of_ (by omega)).2.2.2.2.1, pz_b, g4, if_pos rfl, g1, e26, pz_b2]
    rcases hb with z | z
    · obtain ⟨v, g1, g2⟩ := pb_sf (i := i) hs d (j + 1) (T + 6) (sShk s S) (by omega) hW2 hi hg z
      refine ⟨v, fun w fuel hf H h5 => ?_, fun w fuel hf H => ?_⟩
      · match fuel, hf with
        | fuel + 1, hf =>
          obtain ⟨w13, e13, k1, k2⟩ := stepC w fuel H h5
          obtain ⟨w1, q1, q2⟩ := g1 w13 fuel (by omega) k1 (by rw [k2 0 (by omega)]; exact h5)
          exact ⟨w1, by rw [e13, if_pos z]; exact q1, fun c hc => (q2 c hc).trans (k2 c hc)⟩
      · match fuel, hf with
        | fuel + 1, hf =>
          obtain ⟨w26, e26, k1, k2, k3⟩ := stepR w fuel H
          obtain ⟨w1, q1, q2, q3, q4⟩ := g2 w26 fuel (by omega) k1
          exact ⟨w1, by rw [e26]; exact q1, fun k hk => by rw [q2 k hk, k2 241 (by decide) (by decide)], fun c c1 c2 => (q3 c c1 c2).trans (k2 c c1 c2), fun k hk => (q4 k hk).trans (k3 k hk)⟩
    · refine ⟨nI (j + 1), fun w fuel hf H h5 => ?_, fun w fuel hf H => ?_⟩
      · match fuel, hf with
        | fuel + 1, hf =>
          obtain ⟨w13, e13, k1, k2⟩ := stepC w fuel H h5
          exact ⟨w13, by rw [e13, if_neg (by rw [z]; decide)], k2⟩
      · match fuel, hf with
        | fuel + 2, hf =>
          obtain ⟨w26, e26, k1, k2, k3⟩ := stepR w (fuel + 1) H
          have g4 : w26 239 (15 + 7 * i + 4) = 1 := (k1.1.2 i hi 4 (by decide)).trans z
          obtain ⟨w1, q1, q2, q3⟩ := pr_sfb (w := w26) (i := i) (x := j + 1) (fuel := fuel) (by omega) g4
          exact ⟨w1, by rw [e26]; exact q1, fun k hk => by rw [q2 k hk, k2 241 (by decide) (by decide)], fun c c1 c2 => (q3 c c2).trans (k2 c c1 c2), fun k hk => by rw [q3 238 (by decide)]; exact k3 k hk⟩
theorem pq_18 {T : Nat} {w : qMem} (a1 a2 a3 : Int32) (H : pI T w) : ∃ w1 : qMem, qs_18 w a1 a2 a3 = some w1 ∧ pI (T + 2000) w1 := by
  obtain ⟨S, hW, hH, hR⟩ := H.1
  have hn := hW.1
  have e2 : w 0 2 = nI (sN S) := hH.1.1
  unfold qs_18 fL_shocksFor fX5_shocksFor fX5_propNumbered
  rcases pj_prop (sN S) hn a1 with ⟨⟨i, hi, ea, b1, b2⟩, qp⟩ | ⟨hb, qp⟩
  · have hA := hH.1.2 i hi
    have hB := hR.1.2 i hi
    have h4 := (hW.2.1 i hi).b4
    have g4 : w (19 * 0 + 2 + i) 4 = sP S i 4 := hA 4 (by decide)
    rw [if_neg b1, e2, if_pos b2, ea, pz_at (h := 0) (by decide) hn hi hH.1.1, pz_b, if_pos (pz_P (by decide) (by omega)), pz_b3, if_pos rfl, if_pos (pz_P (by decide) (by omega)), g4]
    rcases h4 with z | z
    · obtain ⟨s, hs1, hs9, es⟩ := hW.2.2.2.2.1
      obtain ⟨v, g1, g2⟩ := pb_sf (i := i) hs9 30 0 T S (by decide) hW hi es z
      obtain ⟨w2, c2, k2, k3⟩ := pc_copy (h := 1) (h1 := 0) (by decide) (by decide) (by decide) hW hH
      obtain ⟨w3, c3, k4⟩ := g1 w2 100 (by decide) k2 (by rw [k3 0 (by omega)]; exact (hH.2.2.2 0 (by decide)).trans es)
      have kk : ∀ c, (c < 19 ∨ 38 ≤ c) → w3 c = w c := fun c hc => (k4 c hc).trans (k3 c (by omega))
      obtain ⟨w10, e10, t1, t2⟩ := pr_think (quw w3 238 7 0)
      have hR3 : pR (quw w3 238 7 0 239) S := by rw [pz_wr, pz_rn (by decide), kk 239 (by omega)]; exact hR
      obtain ⟨w9, e9, u1, u2, u3⟩ := g2 w10 100 (by decide) (by rw [t2 239 (by decide)]; exact hR3)
      have c3' : fX5_shocksFor_L26 100 w2 (nI i) 1 = some (0, v, w3) := c3
      rw [z, if_pos rfl, c2, pz_b, c3']
      have : qlh [3] (0 : Int32) (some (0, v, w3)) = some (0, v, w3) := rfl
      refine ⟨w9, ?_, (pI_look H (fun c hc => kk c (by omega)) 0 (w9 := w9) ⟨fun c h1 h2 h3 => by rw [u2 c h1 h2, t2 c h3], fun k hk => by rw [u3 k hk, t2 238 (by decide)], fun k hk => by rw [u1 k hk, t1 k hk]⟩).mo (by omega)⟩
      rw [this, pz_bn]; unfold fX6_shocksFor fX6_shocksFor_L14
      have g5 : quw w3 238 7 0 239 (15 + 7 * i + 4) = 0 := (hR3.1.2 i hi 4 (by decide)).trans z
      have e9' : fX6_shocksFor_L42 100 w10 (nI i) 0 = some (v, w9) := e9
      rw [← ea, qp w3 (by rw [kk 239 (by omega)]; exact hR.1.1), pz_b, if_neg (by decide), pz_nm, pz_w, if_neg (by decide), ea, (pz_of_ (by omega)).2.2.2.2.1, pz_b, g5, if_neg (by decide), e10, pz_b, e9', pz_b2, fX6_thrown, u3 7 (by decide), t2 238 (by decide), pz_w, pz_b, if_pos rfl, if_pos rfl, if_pos rfl]
    · refine ⟨quw w 238 7 0, ?_, (pI_7 H 0).mo (by omega)⟩
      rw [z, if_neg (by decide)]
      have : qlh [3] (0 : Int32) (some (0, 0, w)) = some (0, 0, w) := rfl
      rw [this, pz_bn]; unfold fX6_shocksFor fX6_shocksFor_L14
      have g5 : quw w 238 7 0 239 (15 + 7 * i + 4) = 1 := (pw_7.trans (hB 4 (by decide))).trans z
      rw [← ea, qp w hR.1.1, pz_b, if_neg (by decide), pz_nm, pz_w, if_neg (by decide), ea, (pz_of_ (by omega)).2.2.2.2.1, pz_b, g5, if_pos rfl, pz_b2, fX6_thrown, pz_w, pz_b, if_pos rfl, if_pos rfl, if_pos rfl]
  · refine ⟨quw w 238 7 1, ?_, (pI_7 H 1).mo (by omega)⟩
    have h0 : (if a1 < 0 then some (3, 0, w) else if a1 < w 0 2 then qbd (fX0_propAt w 0 a1) fun (r4 : Nat) => if qisPb r4 = true then some (0, r4, w) else none else some (3, 0, w)) = some ((3 : Nat), (0 : Nat), w) := by
      rw [e2]
      rcases hb with z | ⟨z1, z2⟩
      · rw [if_pos z]
      · rw [if_neg z1, if_neg z2]
    rw [h0, pz_b3, if_neg (by decide)]
    have : qlh [3] (0 : Int32) (some (3, 0, w)) = some (1, 0, w) := rfl
    rw [this, pz_bn]; unfold fX6_shocksFor fX6_shocksFor_L14
    rw [qp w hR.1.1, pz_b, if_pos rfl, pz_nm, pz_w, if_pos (by decide), pz_b2, fX6_thrown, pz_w, pz_b, if_pos rfl, if_neg (by decide)]
