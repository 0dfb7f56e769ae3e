-- perform
def pfStep (c a : Nat) (X : pSt × Nat) : pSt × Nat := if c = 0 ∨ pMa (sN X.1) a (sP X.1) < 3 * nI c ∨ a ≤ 1 then (sShk a X.1, X.2) else (sShk (a / 2) (sShk a X.1), X.2 + 1)
def pfN (c : Nat) (l : Nat → Nat) (S : pSt) : Nat → pSt × Nat
  | 0 => (S, 0)
  | i + 1 => pfStep c (l i) (pfN c l S i)
def pfL (S : pSt) (j : Nat) : Nat := (sL S j).toNatClampNeg
def pfX (S : pSt) : pSt × Nat := pfN (pKn (sP S) 3 (sN S)) (pfL S) S (sQ S)
def sPer (S : pSt) : pSt := (sN (pfX S).1, sP (pfX S).1, 0, sL (pfX S).1, upd (sG (pfX S).1) 2 (sG (pfX S).1 2 + nI (pfX S).2))
theorem pfL_v {T : Nat} {S : pSt} (hW : pW T S) {j : Nat} (hj : j < sQ S) : sL S j = nI (pfL S j) ∧ 1 ≤ pfL S j ∧ pfL S j ≤ 9 := by
  obtain ⟨a, h1, h2, e⟩ := hW.2.2.2.1 j hj
  have : pfL S j = a := by unfold pfL; rw [e]; exact pz_nI (by omega)
  rw [this]; exact ⟨e, h1, h2⟩
theorem sShk_q (a : Nat) (S : pSt) : sQ (sShk a S) = sQ S := by simp only [sQ, sShk]
theorem sShk_l (a : Nat) (S : pSt) : sL (sShk a S) = sL S := by simp only [sL, sShk]
theorem pfStep_k {c a T : Nat} {X : pSt × Nat} (ha : a ≤ 9) (hW : pW T X.1) : pW (T + 12) (pfStep c a X).1 ∧ sQ (pfStep c a X).1 = sQ X.1 ∧ sL (pfStep c a X).1 = sL X.1 ∧ (pfStep c a X).2 ≤ X.2 + 1 := by
  unfold pfStep
  split
  · exact ⟨(sShk_W ha hW).mo (by omega), sShk_q _ _, sShk_l _ _, by omega⟩
  · have h2 : pW (T + 6 + 6) (sShk (a / 2) (sShk a X.1)) := sShk_W (by omega) (sShk_W ha hW)
    exact ⟨h2.mo (by omega), (sShk_q _ _).trans (sShk_q _ _), (sShk_l _ _).trans (sShk_l _ _), Nat.le_refl _⟩
theorem pfN_k {c T : Nat} {S : pSt} (hW : pW T S) : ∀ i, i ≤ sQ S → pW (T + 12 * i) (pfN c (pfL S) S i).1 ∧ sQ (pfN c (pfL S) S i).1 = sQ S ∧ sL (pfN c (pfL S) S i).1 = sL S ∧ (pfN c (pfL S) S i).2 ≤ i
  | 0, _ => ⟨hW, rfl, rfl, Nat.le_refl _⟩
  | i + 1, hi => by
    obtain ⟨h1, h2, h3, h4⟩ := pfN_k (c := c) hW i (by omega)
    obtain ⟨g1, g2, g3, g4⟩ := pfStep_k (c := c) (a := pfL S i) (pfL_v hW (by omega)).2.2 h1
    exact ⟨g1.mo (by omega), g2.trans h2, g3.trans h3, by show (pfStep c (pfL S i) (pfN c (pfL S) S i)).2 ≤ i + 1; omega⟩
theorem pt_31 : ∀ a, a < 10 → ((nI (a / 2) < 1) ↔ a ≤ 1) ∧ ((nI a ≤ 1) ↔ a ≤ 1) := by decide +kernel
theorem pc_pf {h T c : Nat} {S : pSt} (hh : h < 12) (hc : c ≤ 12) (hW : pW T S) : ∀ (d i fuel : Nat) (w : qMem), i + d = sQ S → d < fuel → pH w h (pfN c (pfL S) S i).1 → ∃ w1 : qMem, fX0_performProgramme_L10 h fuel w (nI c) (nI (pfN c (pfL S) S i).2) (nI i) = some (nI (pfN c (pfL S) S (sQ S)).2, quw (quw w1 (19 * h) 4 0) (19 * h) 7 (w1 (19 * h) 7 + nI (pfN c (pfL S) S (sQ S)).2)) ∧ pH w1 h (pfN c (pfL S) S (sQ S)).1 ∧ ∀ k, (k < 19 * h ∨ 19 * h + 19 ≤ k) → w1 k = w k
  | 0, i, fuel + 1, w, e, _, H => by
    have e : i = sQ S := by omega
    subst e
    have e4 : w (19 * h) 4 = nI (sQ S) := H.2.1.trans (congrArg nI (pfN_k hW _ (Nat.le_refl _)).2.1)
    have hq := hW.2.2.1
    refine ⟨w, ?_, H, fun _ _ => rfl⟩
    simp only [fX0_performProgramme_L10, pz_nm]
    rw [if_pos (by rw [e4]; exact pz_ge (Nat.le_refl _) (by omega)), pz_wk (by decide)]
  | d + 1, i, fuel + 1, w, e, hf, H => by
    have hi : i < sQ S := by omega
    obtain ⟨g1, g2, g3, g4⟩ := pfN_k (c := c) hW i (by omega)
    have hq := hW.2.2.1
    have e4 : w (19 * h) 4 = nI (sQ S) := H.2.1.trans (congrArg nI g2)
    obtain ⟨l1, l2, l3⟩ := pfL_v hW hi
    have e15 : w (19 * h + 15) i = nI (pfL S i) := by rw [H.2.2.1 i (by rw [g2]; exact hi), g3]; exact l1
    have eP : fX0_plannedAt w h (nI i) = some (nI (pfL S i)) := by
      unfold fX0_plannedAt
      rw [if_neg (nI_pos (by omega)), if_neg (show ¬ (8 : Int32) ≤ nI i from nI_ge (b := 8) (by omega) (by omega)), if_pos (pz_qin (by omega) (by omega)), pz_nI (by omega), e15]
    obtain ⟨w1, s1, s2, s3⟩ := pc_shock hh l3 g1 H
    obtain ⟨t1, t2⟩ := pt_31 (pfL S i) (by omega)
    simp only [fX0_performProgramme_L10, eP, pz_b, pz_nm, s1, pz_b2]
    rw [if_neg (by rw [e4]; exact nI_ge hi (by omega)), pt_7 _ (by omega), nI_1, nI_1]
    by_cases hz : c = 0 ∨ pMa (sN (pfN c (pfL S) S i).1) (pfL S i) (sP (pfN c (pfL S) S i).1) < 3 * nI c ∨ pfL S i ≤ 1
    · have eN : pfN c (pfL S) S (i + 1) = (sShk (pfL S i) (pfN c (pfL S) S i).1, (pfN c (pfL S) S i).2) := by
        show pfStep c (pfL S i) _ = _
        unfold pfStep; rw [if_pos hz]
      obtain ⟨w2, e1, k1, k2⟩ := pc_pf hh hc hW d (i + 1) fuel w1 (by omega) (by omega) (by rw [eN]; exact s2)
      refine ⟨w2, ?_, k1, fun k hk => (k2 k hk).trans (s3 k hk)⟩
      rw [eN] at e1
      by_cases z1 : c = 0
      · rw [if_pos (by rw [z1]; decide)]; exact e1
      · rw [if_neg (nI_nle (by omega) (by omega))]
        by_cases z2 : pMa (sN (pfN c (pfL S) S i).1) (pfL S i) (sP (pfN c (pfL S) S i).1) < 3 * nI c
        · rw [if_pos z2]; exact e1
        · rw [if_neg z2, if_pos (t1.mpr ((hz.resolve_left z1).resolve_left z2))]; exact e1
    · have z1 : ¬ c = 0 := fun z => hz (Or.inl z)
      have z2 : ¬ pMa (sN (pfN c (pfL S) S i).1) (pfL S i) (sP (pfN c (pfL S) S i).1) < 3 * nI c := fun z => hz (Or.inr (Or.inl z))
      have z3 : ¬ pfL S i ≤ 1 := fun z => hz (Or.inr (Or.inr z))
      have eN : pfN c (pfL S) S (i + 1) = (sShk (pfL S i / 2) (sShk (pfL S i) (pfN c (pfL S) S i).1), (pfN c (pfL S) S i).2 + 1) := by
        show pfStep c (pfL S i) _ = _
        unfold pfStep; rw [if_neg hz]
      obtain ⟨w3, u1, u2, u3⟩ := pc_shock (a := pfL S i / 2) hh (by omega) (sShk_W l3 g1) s2
      obtain ⟨w2, e1, k1, k2⟩ := pc_pf hh hc hW d (i + 1) fuel w3 (by omega) (by omega) (by rw [eN]; exact u2)
      refine ⟨w2, ?_, k1, fun k hk => (k2 k hk).trans ((u3 k hk).trans (s3 k hk))⟩
      rw [eN] at e1
      rw [if_neg (nI_nle (by omega) (by omega)), if_neg z2, if_neg (fun z => z3 (t1.mp z)), u1, pz_b2]
      exact e1
theorem pr_pf {T c : Nat} {S : pSt} (hc : c ≤ 12) (hW : pW T S) : ∀ (d i fuel : Nat) (w : qMem), i + d = sQ S → d < fuel → pR (w 239) (pfN c (pfL S) S i).1 → ∃ w1 : qMem, fX6_doPerform_L33 fuel w (nI (pfN c (pfL S) S i).2) (nI c) (nI i) = some (nI (pfN c (pfL S) S (sQ S)).2, quw (quw w1 239 3 (w1 239 3 + nI (pfN c (pfL S) S (sQ S)).2)) 239 6 0) ∧ pR (w1 239) (pfN c (pfL S) S (sQ S)).1 ∧ (∀ k, k ≠ 238 → k ≠ 239 → w1 k = w k) ∧ ∀ k, k ≠ 11 → w1 238 k = w 238 k
  | 0, i, fuel + 1, w, e, _, H => by
    have e : i = sQ S := by omega
    subst e
    have e4 : w 239 6 = nI (sQ S) := H.2.1.trans (congrArg nI (pfN_k hW _ (Nat.le_refl _)).2.1)
    have hq := hW.2.2.1
    refine ⟨w, ?_, H, fun _ _ _ => rfl, fun _ _ => rfl⟩
    simp only [fX6_doPerform_L33, pz_nm]
    rw [if_pos (by rw [e4]; exact pz_ge (Nat.le_refl _) (by omega))]
  | d + 1, i, fuel + 1, w, e, hf, H => by
    have hi : i < sQ S := by omega
    obtain ⟨g1, g2, g3, g4⟩ := pfN_k (c := c) hW i (by omega)
    have hq := hW.2.2.1
    have e4 : w 239 6 = nI (sQ S) := H.2.1.trans (congrArg nI g2)
    obtain ⟨l1, l2, l3⟩ := pfL_v hW hi
    have e15 : w 239 (7 + i) = nI (pfL S i) := by rw [H.2.2.1 i (by rw [g2]; exact hi), g3]; exact l1
    have e7 : (7 : Int32) + nI i = nI (7 + i) := nI_add 7 _
    obtain ⟨w1, s1, s2, s3, s4, s5⟩ := pr_shock l3 g1 H
    obtain ⟨t1, t2⟩ := pt_31 (pfL S i) (by omega)
    simp only [fX6_doPerform_L33, pz_nm, e7]
    rw [if_neg (by rw [e4]; exact nI_ge hi (by omega)), if_pos (pz_qin (by omega) (by omega)), pz_nI (by omega), e15, s1, pz_b2, pt_7 _ (by omega), nI_1]
    by_cases hz : c = 0 ∨ pMa (sN (pfN c (pfL S) S i).1) (pfL S i) (sP (pfN c (pfL S) S i).1) < 3 * nI c ∨ pfL S i ≤ 1
    · have eN : pfN c (pfL S) S (i + 1) = (sShk (pfL S i) (pfN c (pfL S) S i).1, (pfN c (pfL S) S i).2) := by
        show pfStep c (pfL S i) _ = _
        unfold pfStep; rw [if_pos hz]
      obtain ⟨w2, e1, k1, k2, k3⟩ := pr_pf hc hW d (i + 1) fuel w1 (by omega) (by omega) (by rw [eN]; exact s2)
      refine ⟨w2, ?_, k1, fun k hk hk2 => (k2 k hk hk2).trans (s3 k hk hk2), fun k hk => (k3 k hk).trans (s4 k hk)⟩
      rw [eN] at e1
      by_cases z1 : c = 0
      · rw [if_pos (by rw [z1]; decide)]; exact e1
      · rw [if_neg (nI_nle (by omega) (by omega))]
        by_cases z2 : pMa (sN (pfN c (pfL S) S i).1) (pfL S i) (sP (pfN c (pfL S) S i).1) < 3 * nI c
        · rw [if_pos z2]; exact e1
        · rw [if_neg z2, if_pos (t2.mpr ((hz.resolve_left z1).resolve_left z2))]; exact e1
    · have z1 : ¬ c = 0 := fun z => hz (Or.inl z)
      have z2 : ¬ pMa (sN (pfN c (pfL S) S i).1) (pfL S i) (sP (pfN c (pfL S) S i).1) < 3 * nI c := fun z => hz (Or.inr (Or.inl z))
      have z3 : ¬ pfL S i ≤ 1 := fun z => hz (Or.inr (Or.inr z))
      have eN : pfN c (pfL S) S (i + 1) = (sShk (pfL S i / 2) (sShk (pfL S i) (pfN c (pfL S) S i).1), (pfN c (pfL S) S i).2 + 1) := by
        show pfStep c (pfL S i) _ = _
        unfold pfStep; rw [if_neg hz]
      obtain ⟨w3, u1, u2, u3, u4, u5⟩ := pr_shock (a := pfL S i / 2) (by omega) (sShk_W l3 g1) s2
      obtain ⟨w2, e1, k1, k2, k3⟩ := pr_pf hc hW d (i + 1) fuel w3 (by omega) (by omega) (by rw [eN]; exact u2)
      refine ⟨w2, ?_, k1, fun k hk hk2 => (k2 k hk hk2).trans ((u3 k hk hk2).trans (s3 k hk hk2)), fun k hk => (k3 k hk).trans ((u4 k hk).trans (s4 k hk))⟩
      rw [eN] at e1
      rw [if_neg (nI_nle (by omega) (by omega)), if_neg z2, if_neg (fun z => z3 (t2.mp z)), u1, pz_b2, nI_1]
      exact e1
theorem sPer_W {T : Nat} {S : pSt} (hW : pW T S) : pW (T + 96) (sPer S) := by
  have hq := hW.2.2.1
  obtain ⟨g1, g2, g3, g4⟩ := pfN_k (c := pKn (sP S) 3 (sN S)) hW (sQ S) (Nat.le_refl _)
  obtain ⟨h1, h2, h3, h4, h5, h6⟩ := g1.mo (T' := T + 96) (by omega)
  exact ⟨h1, h2, Nat.zero_le _, fun j hj => absurd hj (Nat.not_lt_zero _), h5, h6⟩
theorem pc_perf {w : qMem} {h T : Nat} {S : pSt} (hh : h < 12) (hW : pW T S) (H : pH w h S) : ∃ w1 : qMem, fX0_performProgramme w h = some (nI (pfX S).2, w1) ∧ pH w1 h (sPer S) ∧ ∀ k, (k < 19 * h ∨ 19 * h + 19 ≤ k) → w1 k = w k := by
  have hn := hW.1
  have hq := hW.2.2.1
  obtain ⟨w1, e1, k1, k2⟩ := pc_pf (c := pKn (sP S) 3 (sN S)) hh (Nat.le_trans (pKn_le _ _ _) hn) hW (sQ S) 0 100 w (by omega) (by omega) H
  refine ⟨quw (quw w1 (19 * h) 4 0) (19 * h) 7 (w1 (19 * h) 7 + nI (pfX S).2), ?_, ?_, fun k hk => ?_⟩
  · unfold fX0_performProgramme
    rw [pc_countOf hh hn H.1, pz_b]
    exact e1
  · have hn2 := (pfN_k (c := pKn (sP S) 3 (sN S)) hW (sQ S) (Nat.le_refl _)).1.1
    obtain ⟨⟨H1, H2⟩, H3, H4, H5⟩ := k1
    refine ⟨⟨?_, fun i hi k hk => ?_⟩, ?_, fun j hj => absurd hj (Nat.not_lt_zero _), fun k hk => ?_⟩
    · rw [pz_wk (by decide), pz_wk (by decide)]; exact H1
    · have hi' : i < sN (pfX S).1 := hi
      rw [pz_wn (by omega), pz_wn (by omega)]; exact H2 i hi k hk
    · rw [pz_wk (by decide), pz_w]; rfl
    · show quw _ _ _ _ _ _ = upd (sG (pfX S).1) 2 (sG (pfX S).1 2 + nI (pfX S).2) k
      by_cases z : k = 2
      · subst z
        rw [pz_w, pz_u]
        exact congrArg (· + _) (H5 2 (by decide))
      · rw [pz_wk (by omega), pz_wk (by omega), pz_un z]; exact H5 k hk
  · have hc1 : k ≠ 19 * h := by omega
    rw [pz_wr, pz_rn hc1, pz_wr, pz_rn hc1]; exact k2 k hk
theorem pr_perf {w : qMem} {T : Nat} {S : pSt} (hW : pW T S) (hq0 : sQ S ≠ 0) (H : pR (w 239) S) : ∃ w1 : qMem, fX6_doPerform w = some (nI (pfX S).2, w1) ∧ pR (w1 239) (sPer S) ∧ (∀ k, k ≠ 238 → k ≠ 239 → w1 k = w k) ∧ ∀ k, k ≠ 11 → w1 238 k = w 238 k := by
  have hn := hW.1
  have hq := hW.2.2.1
  obtain ⟨w1, e1, k1, k2, k3⟩ := pr_pf (c := pKn (sP S) 3 (sN S)) (Nat.le_trans (pKn_le _ _ _) hn) hW (sQ S) 0 100 w (by omega) (by omega) H
  refine ⟨quw (quw w1 239 3 (w1 239 3 + nI (pfX S).2)) 239 6 0, ?_, ?_, fun k hk hk2 => ?_, fun k hk => ?_⟩
  · unfold fX6_doPerform
    have e6 : w 239 6 = nI (sQ S) := H.2.1
    rw [e6, if_neg (nI_ne0 (by omega) (by omega)), pr_km hn H.1, pz_b]
    exact e1
  · obtain ⟨⟨H1, H2⟩, H3, H4, H5⟩ := k1
    refine ⟨⟨?_, fun i hi k hk => ?_⟩, ?_, fun j hj => absurd hj (Nat.not_lt_zero _), fun k hk => ?_⟩
    · rw [pz_wk (by decide), pz_wk (by decide)]; exact H1
    · unfold pzS; rw [pz_wk (by omega), pz_wk (by omega)]; exact H2 i hi k hk
    · rw [pz_w]; rfl
    · show quw _ _ _ _ _ _ = upd (sG (pfX S).1) 2 (sG (pfX S).1 2 + nI (pfX S).2) k
      by_cases z : k = 2
      · subst z
        rw [pz_wk (by decide), pz_w, pz_u]
        exact congrArg (· + _) (H5 2 (by decide))
      · rw [pz_wk (by omega), pz_wk (by omega), pz_un z]; exact H5 k hk
  · rw [pz_wr, pz_rn hk2, pz_wr, pz_rn hk2]; exact k2 k hk hk2
  · rw [pz_wn (by decide), pz_wn (by decide)]; exact k3 k hk
theorem po_perform (T : Nat) (a b : Int32) : pDo T 9 a b fX6_doPerform (fun t => if t = 3 then 1 else 0) := by
  intro S hW
  have hq := hW.2.2.1
  have hO : ∀ w : qMem, fX5_tryOrder w 9 a b = if w 0 4 = 0 then qbd2 (fX5_refuse w 5 (w 0 6)) fun (r45 : Int32) (w46 : qMem) => some (r45, w46) else qbd2 (fX0_performProgramme w 0) fun (r39 : Int32) (w40 : qMem) => qbd2 (fX5_answered w40 r39) fun (r42 : Int32) (w43 : qMem) => some (r42, w43) := fun w => by
    unfold fX5_tryOrder
    rw [if_neg (by decide), if_neg (by decide), if_neg (by decide), if_neg (by decide), if_neg (by decide), if_neg (by decide), if_neg (by decide), if_neg (by decide), if_pos rfl]
  by_cases hz : sQ S = 0
  · refine ⟨3, 0, 5, sG S 1, S, hW.mo (by omega), by decide, fun _ => ⟨rfl, by decide⟩, fun w H => ?_, fun w H => ?_⟩
    · refine ⟨_, ?_, pOc.rf 0 5 (sG S 1) hW H⟩
      have e4 : w 0 4 = 0 := by have := H.2.1; rw [hz] at this; exact this
      have e6 : w 0 6 = sG S 1 := H.2.2.2 1 (by decide)
      rw [hO, if_pos e4, pc_ref, pz_b2, e6]
    · refine ⟨0, _, ?_, pOr.rf 0 5 (sG S 1) 0 H⟩
      have e4 : w 239 6 = 0 := by have := H.2.1; rw [hz] at this; exact this
      have e6 : w 239 2 = sG S 1 := H.2.2.2 1 (by decide)
      unfold fX6_doPerform
      rw [if_pos e4, pr_ref, pz_b2, e6]; rfl
  · refine ⟨0, nI (pfX S).2, 0, 0, sPer S, (sPer_W hW).mo (by omega), by decide, fun q => absurd rfl q, fun w H => ?_, fun w H => ?_⟩
    · obtain ⟨w1, e1, k1, k2⟩ := pc_perf (h := 0) (by decide) hW H
      refine ⟨quw w1 228 10 (nI (pfX S).2), ?_, pOc.ok 0 0 (pH_28 _ (sPer_W hW) k1) (fun c c1 c2 => ?_) ?_⟩
      · have e4 : w 0 4 = nI (sQ S) := H.2.1
        rw [hO, e4, if_neg (nI_ne0 (by omega) (by omega)), e1, pz_b2, pc_ans, pz_b2]
      · rw [pz_wr, pz_rn c2]; exact k2 c (by omega)
      · rw [pz_wr, pz_r, k2 228 (by omega)]
    · obtain ⟨w1, e1, k1, k2, k3⟩ := pr_perf hW hz H
      exact ⟨_, w1, e1, pOr.ok _ 0 0 k1 k2 k3⟩
