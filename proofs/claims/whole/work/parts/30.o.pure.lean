-- take
def pRm (P : Nat → Nat → Int32) (i : Nat) : Nat → Nat → Int32 := fun j => if j < i then P j else P (j + 1)
def sTak (i : Nat) (S : pSt) : pSt := (sN S - 1, pRm (sP S) i, sQ S, sL S, sG S)
theorem pRm_l (P : Nat → Nat → Int32) {i j : Nat} (h : j < i) : pRm P i j = P j := if_pos h
theorem pRm_r (P : Nat → Nat → Int32) {i j : Nat} (h : i ≤ j) : pRm P i j = P (j + 1) := if_neg (by omega)
theorem pRm_c (P : Nat → Nat → Int32) (k f : Int32) (i : Nat) : ∀ j, pCn (pRm P i) k f j ≤ pCn P k f (j + 1) ∧ (j ≤ i → pCn (pRm P i) k f j = pCn P k f j)
  | 0 => ⟨Nat.zero_le _, fun _ => rfl⟩
  | j + 1 => by
    obtain ⟨h1, h2⟩ := pRm_c P k f i j
    by_cases q : j < i
    · have e : pCn (pRm P i) k f (j + 1) = pCn P k f (j + 1) := by
        show pCn (pRm P i) k f j + _ = pCn P k f j + _
        rw [h2 (by omega), pRm_l P q]
      refine ⟨?_, fun _ => e⟩
      rw [e]
      show _ ≤ pCn P k f (j + 1) + _
      omega
    · refine ⟨?_, fun z => absurd z (by omega)⟩
      show pCn (pRm P i) k f j + _ ≤ pCn P k f (j + 1) + _
      rw [pRm_r P (by omega)]
      omega
theorem sTak_W {T i : Nat} {S : pSt} (hi : i < sN S) (H : pW T S) : pW T (sTak i S) := by
  obtain ⟨h1, h2, h3, h4, h5, h6⟩ := H
  refine ⟨by show sN S - 1 ≤ 12; omega, fun j hj => ?_, h3, h4, h5, fun f hf k hk => ?_⟩
  · have hj' : j < sN S - 1 := hj
    show pWF T (pRm (sP S) i j)
    by_cases q : j < i
    · rw [pRm_l _ q]; exact h2 j (by omega)
    · rw [pRm_r _ (by omega)]; exact h2 (j + 1) (by omega)
  · show pCn (pRm (sP S) i) k (nI f) (sN S - 1) ≤ 5
    have := (pRm_c (sP S) k (nI f) i (sN S - 1)).1
    rw [show sN S - 1 + 1 = sN S by omega] at this
    exact Nat.le_trans this (h6 f hf k hk)
theorem pc_rm {n T i : Nat} {P : Nat → Nat → Int32} (hn : n ≤ 12) (hi : i < n) (hW : ∀ i, i < n → pWF T (P i)) : ∀ (d m fuel : Nat) (w : qMem), m + d + 1 = n → d < fuel → i ≤ m → w 0 2 = nI n → (∀ j, j < n → pAg (w (2 + j)) (if j < m then pRm P i j else P j)) → ∃ w1 : qMem, fX0_removeProp_L2 0 fuel w (nI m) = some (nI (n - 1), quw w1 0 2 (nI (n - 1))) ∧ (∀ c, (c < 2 ∨ 14 ≤ c) → w1 c = w c) ∧ ∀ j, j < n - 1 → pAg (w1 (2 + j)) (pRm P i j)
  | 0, m, fuel + 1, w, e, _, hm, h2, H => by
    have e1 : m = n - 1 := by omega
    subst e1
    have en : nI n - 1 = nI (n - 1) := by
      have := nI_pred (n - 1)
      rw [show n - 1 + 1 = n by omega] at this; exact this
    refine ⟨w, ?_, fun _ _ => rfl, fun j hj => ?_⟩
    · have h2' : w (19 * 0) 2 = nI n := h2
      simp only [fX0_removeProp_L2, pz_nm]
      rw [h2', en, if_pos (pz_ge (Nat.le_refl _) (by omega)), pz_w]
    · have := H j (by omega)
      rw [if_pos hj] at this; exact this
  | d + 1, m, fuel + 1, w, e, hf, hm, h2, H => by
    have h2' : w (19 * 0) 2 = nI n := h2
    have en : nI n - 1 = nI (n - 1) := by
      have := nI_pred (n - 1)
      rw [show n - 1 + 1 = n by omega] at this; exact this
    have hA : pAg (w (2 + (m + 1))) (P (m + 1)) := by have := H (m + 1) (by omega); rw [if_neg (by omega)] at this; exact this
    obtain ⟨g, e1, a1⟩ := pc_pc (w := w) (c := 2 + m) (c1 := 2 + (m + 1)) (by omega) ((hW (m + 1) (by omega)).ag hA.sy).b4
    obtain ⟨w1, g1, g2, g3⟩ := pc_rm hn hi hW d (m + 1) fuel (qur w (2 + m) g) (by omega) (by omega) (by omega) (by rw [pz_rn (by omega)]; exact h2) (pz_stepA H (fun j hj hk => pz_rn (by omega)) (by rw [pz_r, pRm_r _ hm]; exact a1.tr hA))
    refine ⟨w1, ?_, fun c hc => (g2 c hc).trans (pz_rn (by omega)), g3⟩
    have x0 : 19 * 0 + 2 + m = 2 + m := by omega
    have x1 : 19 * 0 + 2 + (m + 1) = 2 + (m + 1) := by omega
    simp only [fX0_removeProp_L2, nI_1, pz_at (h := 0) (by decide) hn (show m < n by omega) h2', pz_at (h := 0) (by decide) hn (show m + 1 < n by omega) h2', pz_b, pz_nm]
    rw [h2', en, if_neg (nI_ge (by omega) (by omega)), if_pos (pz_P (by decide) (by omega)), if_pos (pz_P (by decide) (by omega)), x0, x1, e1, pz_b]
    exact g1
theorem po_take (T : Nat) (a b : Int32) : pDo T 4 a b (fun w => fX6_doTake w a) (fun t => if t = 1 then 1 else 0) := by
  intro S hW
  have hn := hW.1
  have hq := hW.2.2.1
  have hO : ∀ w : qMem, fX5_tryOrder w 4 a b = qbd2 (fX5_tryTaking w a) fun (r19 : Int32) (w20 : qMem) => some (r19, w20) := fun w => by
    unfold fX5_tryOrder
    rw [if_neg (by decide), if_neg (by decide), if_neg (by decide), if_pos rfl]
  rcases pj_prop (sN S) hn a with ⟨⟨i, hi, ea, a0, a1⟩, qp⟩ | ⟨qa, qp⟩
  · have en : nI (sN S) - 1 = nI (sN S - 1) := by
      have := nI_pred (sN S - 1)
      rw [show sN S - 1 + 1 = sN S by omega] at this; exact this
    refine ⟨0, nI (sN S - 1), 0, 0, sTak i S, (sTak_W hi hW).mo (by omega), by decide, fun q => absurd rfl q, fun w H => ?_, fun w H => ?_⟩
    · obtain ⟨⟨H1, H2⟩, H3, H4, H5⟩ := H
      obtain ⟨w1, e1, k1, k2⟩ := pc_rm hn hi hW.2.1 (sN S - 1 - i) i 100 w (by omega) (by omega) (Nat.le_refl _) H1 (fun j hj => by
        have := H2 j hj
        rw [show 19 * 0 + 2 + j = 2 + j by omega] at this
        by_cases q : j < i
        · rw [if_pos q, pRm_l _ q]; exact this
        · rw [if_neg q]; exact this)
      refine ⟨quw (quw w1 0 2 (nI (sN S - 1))) 228 10 (nI (sN S - 1)), ?_, pOc.ok 0 0 (pH_28 _ (sTak_W hi hW) ?_) (fun c c1 c2 => ?_) ?_⟩
      · have e2 : w 0 2 = nI (sN S) := H1
        have e1' : fX0_removeProp w 0 a = some (nI (sN S - 1), quw w1 0 2 (nI (sN S - 1))) := by rw [ea]; exact e1
        rw [hO]; unfold fX5_tryTaking
        rw [if_neg a0, e2, if_pos a1, e1', pz_b2, pc_ans, pz_b2, pz_b2]
      · refine ⟨⟨pz_w, fun j hj => ?_⟩, ?_, fun j hj => ?_, fun k hk => ?_⟩
        · have hj' : j < sN S - 1 := hj
          rw [show 19 * 0 + 2 + j = 2 + j by omega, pz_wr, pz_rn (by omega)]; exact k2 j hj
        · rw [pz_wk (by decide), k1 _ (by omega)]; exact H3
        · rw [pz_wn (by decide), k1 _ (by omega)]; exact H4 j hj
        · rw [pz_wk (by omega), k1 _ (by omega)]; exact H5 k hk
      · rw [pz_wr, pz_rn c2, pz_wr, pz_rn (by omega)]; exact k1 c (by omega)
      · rw [pz_wr, pz_r, pz_wr, pz_rn (by decide), k1 228 (by omega)]
    · obtain ⟨⟨H1, H2⟩, H3, H4, H5⟩ := H
      have e5 : (15 : Int32) + 7 * nI i = nI (15 + 7 * i) := by
        have e : (7 : Int32) * nI i = nI (7 * i) := pk_mul 7 i
        rw [e]; exact nI_add 15 _
      have e57 : nI (15 + 7 * i) + 7 = nI (22 + 7 * i) := by
        have : nI (15 + 7 * i) + nI 7 = nI (15 + 7 * i + 7) := nI_add _ 7
        rw [show 15 + 7 * i + 7 = 22 + 7 * i by omega] at this; exact this
      have e7 : (7 : Int32) * (nI (sN S - 1) - nI i) = nI (7 * (sN S - 1 - i)) := by
        rw [pk_sub (by omega)]; exact pk_mul 7 _
      have hcp : qcpy (nI (22 + 7 * i)) (nI (15 + 7 * i)) (nI (7 * (sN S - 1 - i))) 99 99 = true := by
        simp only [qcpy, Bool.and_eq_true, decide_eq_true_eq]
        rw [pz_nI (by omega), pz_nI (by omega), pz_nI (by omega)]
        exact ⟨nI_pos (by omega), nI_pos (by omega), nI_pos (by omega), by omega, by omega⟩
      refine ⟨nI (sN S - 1), quw (qur w 239 (va_cpy (w 239) (w 239) (22 + 7 * i) (15 + 7 * i) (7 * (sN S - 1 - i)))) 239 0 (nI (sN S - 1)), ?_, pOr.ok _ 0 0 ?_ (fun c c1 c2 => ?_) (fun k _ => ?_)⟩
      · show fX6_doTake w a = _
        unfold fX6_doTake
        rw [qp w H1, pz_b, if_neg (by decide), pz_nm, pz_nm, ea, H1, en, e5, e57, e7, if_pos hcp, pz_nI (by omega), pz_nI (by omega), pz_nI (by omega)]
        rfl
      · have hz : ∀ k, (k < 15 + 7 * i) → k ≠ 0 → quw (qur w 239 (va_cpy (w 239) (w 239) (22 + 7 * i) (15 + 7 * i) (7 * (sN S - 1 - i)))) 239 0 (nI (sN S - 1)) 239 k = w 239 k := fun k hk h0 => by
          rw [pz_wk h0, pz_r, pv_c, if_neg (by omega)]
        refine ⟨⟨pz_w, fun j hj k hk => ?_⟩, ?_, fun j hj => ?_, fun k hk => ?_⟩
        · have hj' : j < sN S - 1 := hj
          show pzS _ j k = pRm (sP S) i j k
          by_cases q : j < i
          · unfold pzS
            rw [hz _ (by omega) (by omega), pRm_l _ q]; exact H2 j (by omega) k hk
          · unfold pzS
            rw [pz_wk (by omega), pz_r, pv_c, if_pos (by omega), pRm_r _ (by omega)]
            have := H2 (j + 1) (by omega) k hk
            unfold pzS at this
            rw [show 22 + 7 * i + (15 + 7 * j + k - (15 + 7 * i)) = 15 + 7 * (j + 1) + k by omega]; exact this
        · rw [hz _ (by omega) (by decide)]; exact H3
        · have hj' : j < sQ S := hj
          rw [hz _ (by omega) (by omega)]; exact H4 j hj
        · rw [hz _ (by omega) (by omega)]; exact H5 k hk
      · rw [pz_wr, pz_rn c2, pz_rn c2]
      · rw [pz_wn (by decide), pz_rn (by decide)]
  · refine ⟨1, 0, 0, 0, S, hW.mo (by omega), by decide, fun _ => ⟨rfl, by decide⟩, fun w H => ⟨w, ?_, pOc.no 0 0 0 H (by decide) (by decide)⟩, fun w H => ⟨0, _, ?_, pOr.no 0 0 0 0 H (by decide) (by decide)⟩⟩
    · have e2 : w 0 2 = nI (sN S) := H.1.1
      rw [hO]; unfold fX5_tryTaking
      rw [e2]
      rcases qa with z | ⟨z1, z2⟩
      · rw [if_pos z, pz_b2]
      · rw [if_neg z1, if_neg z2, pz_b2]
    · show fX6_doTake w a = _
      unfold fX6_doTake
      rw [qp w H.1.1, pz_b, if_pos rfl, pr_fail, pz_b2]; rfl
