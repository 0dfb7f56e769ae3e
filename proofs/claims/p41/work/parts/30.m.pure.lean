-- perform
def pfStep (c a : Nat) (X : pSt × Nat) : pSt × Nat := if c = 0 ∨ pMa (sN X.1) a (sP X.1) < 3 * nI c ∨ a ≤ 1 then (sShk a X.1, X.2) else (sShk (a / 2) (sShk a X.1), X.2 + 1)
def pfN (c : Nat) (l : Nat → Nat) (S : pSt) : Nat → pSt × Nat
  | 0 => (S, 0)
  | i + 1 => pfStep c (l i) (pfN c l S i)
def pfL (S : pSt) (j : Nat) : Nat := (sL S j).toNatClampNeg
def pfX (S : pSt) : pSt × Nat := pfN (pKn (sP S) 3 (sN S)) (pfL S) S (sQ S)
def sPer (S : pSt) : pSt := (sN (pfX S).1, sP (pfX S).1, 0, sL (pfX S).1, upd (sG (pfX S).1) 2 (sG (pfX S).1 2 + nI (pfX S).2))
theorem pfL_v {T : Nat} {S : pSt} (hW : pW T S) {j : Nat} (hj : j < sQ S) : sL S j = nI (pfL S j) ∧ 1 ≤ pfL S j ∧ pfL S j ≤ 9 := by
  obtain ⟨a, h1, h2, e⟩ := hW.2.2.2.1 j hj
  have : pfL S j = a := by unfold pfL; rw [e]; exact pz_nI (by omega)
  rw [this]; exact ⟨e, h1, h2⟩
theorem sShk_q (a : Nat) (S : pSt) : sQ (sShk a S) = sQ S := by simp only [sQ, sShk]
theorem sShk_l (a : Nat) (S : pSt) : sL (sShk a S) = sL S := by simp only [sL, sShk]
theorem pfStep_k {c a T : Nat} {X : pSt × Nat} (ha : a ≤ 9) (hW : pW T X.1) : pW (T + 12) (pfStep c a X).1 ∧ sQ (pfStep c a X).1 = sQ X.1 ∧ sL (pfStep c a X).1 = sL X.1 ∧ (pfStep c a X).2 ≤ X.2 + 1 := by
  unfold pfStep
  split
  · exact ⟨(sShk_W ha hW).mo (by omega), sShk_q _ _, sShk_l _ _, by omega⟩
  · have h2 : pW (T + 6 + 6) (sShk (a / 2) (sShk a X.1)) := sShk_W (by omega) (sShk_W ha hW)
    exact ⟨h2.mo (by omega), (sShk_q _ _).trans (sShk_q _ _), (sShk_l _ _).trans (sShk_l _ _), Nat.le_refl _⟩
theorem pfN_k {c T : Nat} {S : pSt} (hW : pW T S) : ∀ i, i ≤ sQ S → pW (T + 12 * i) (pfN c (pfL S) S i).1 ∧ sQ (pfN c (pfL S) S i).1 = sQ S ∧ sL (pfN c (pfL S) S i).1 = sL S ∧ (pfN c (pfL S) S i).2 ≤ i
  | 0, _ => ⟨hW, rfl, rfl, Nat.le_refl _⟩
  | i + 1, hi => by
    obtain ⟨h1, h2, h3, h4⟩ := pfN_k (c := c) hW i (by omega)
    obtain ⟨g1, g2, g3, g4⟩ := pfStep_k (c := c) (a := pfL S i) (pfL_v hW (by omega)).2.2 h1
    exact ⟨g1.mo (by omega), g2.trans h2, g3.trans h3, by show (pfStep c (pfL S i) (pfN c (pfL S) S i)).2 ≤ i + 1; omega⟩
theorem pt_31 : ∀ a, a < 10 → ((nI (a / 2) < 1) ↔ a ≤ 1) ∧ ((nI a ≤ 1) ↔ a ≤ 1) := by decide +kernel
theorem pc_pf {h T c : Nat} {S : pSt} (hh : h < 12) (hc : c ≤ 12) (hW : pW T S) : ∀ (d i fuel : Nat) (w : qMem), i + d = sQ S → d < fuel → pH w h (pfN c (pfL S) S i).1 → ∃ w1 : qMem, fX0_performProgramme_L10 h fuel w (nI c) (nI (pfN c (pfL S) S i).2) (nI i) = some (nI (pfN c (pfL S) S (sQ S)).2, quw (quw w1 (19 * h) 4 0) (19 * h) 7 (w1 (19 * h) 7 + nI (pfN c (pfL S) S (sQ S)).2)) ∧ pH w1 h (pfN c (pfL S) S (sQ S)).1 ∧ ∀ k, (k < 19 * h ∨ 19 * h + 19 ≤ k) → w1 k = w k
  | 0, i, fuel + 1, w, e, _, H => by
    have e : i = sQ S := by omega
    subst e
    have e4 : w (19 * h) 4 = nI (sQ S) := H.2.1.trans (congrArg nI (pfN_k hW _ (Nat.le_refl _)).2.1)
    have hq := hW.2.2.1
    refine ⟨w, ?_, H, fun _ _ => rfl⟩
    simp only [fX0_performProgramme_L10, pz_nm]
    rw [if_pos (by rw [e4]; exact pz_ge (Nat.le_refl _) (by omega)), pz_wk (by decide)]
  | d + 1, i, fuel + 1, w, e, hf, H => by
    have hi : i < sQ S := by omega
    obtain ⟨g1, g2, g3, g4⟩ := pfN_k (c := c) hW i (by omega)
    have hq := hW.2.2.1
    have e4 : w (19 * h) 4 = nI (sQ S) := H.2.1.trans (congrArg nI g2)
    obtain ⟨l1, l2, l3⟩ := pfL_v hW hi
    have e15 : w (19 * h + 15) i = nI (pfL S i) := by rw [H.2.2.1 i (by rw [g2]; exact hi), g3]; exact l1
    have eP : fX0_plannedAt w h (nI i) = some (nI (pfL S i)) := by
      unfold fX0_plannedAt
      rw [if_neg (nI_pos (by omega)), if_neg (show ¬ (8 : Int32) ≤ nI i from nI_ge (b := 8) (by omega) (by omega)), if_pos (pz_qin (by omega) (by omega)), pz_nI (by omega), e15]
    obtain ⟨w1, s1, s2, s3⟩ := pc_shock hh l3 g1 H
    obtain ⟨t1, t2⟩ := pt_31 (pfL S i) (by omega)
    simp only [fX0_performProgramme_L10, eP, pz_b, pz_nm, s1, pz_b2]
    rw [if_neg (by rw [e4]; exact nI_ge hi (by omega)), pt_7 _ (by omega), nI_1, nI_1]
    by_cases hz : c = 0 ∨ pMa (sN (pfN c (pfL S) S i).1) (pfL S i) (sP (pfN c (pfL S) S i).1) < 3 * nI c ∨ pfL S i ≤ 1
    · have eN : pfN c (pfL S) S (i + 1) = (sShk (pfL S i) (pfN c (pfL S) S i).1, (pfN c (pfL S) S i).2) := by
        show pfStep c (pfL S i) _ = _
        unfold pfStep; rw [if_pos hz]
      obtain ⟨w2, e1, k1, k2⟩ := pc_pf hh hc hW d (i + 1) fuel w1 (by omega) (by omega) (by rw [eN]; exact s2)
      refine ⟨w2, ?_, k1, fun k hk => (k2 k hk).trans (s3 k hk)⟩
      rw [eN] at e1
      by_cases z1 : c = 0
      · rw [if_pos (by rw [z1]; decide)]; exact e1
      · rw [if_neg (nI_nle (by omega) (by omega))]
        by_cases z2 : pMa (sN (pfN c (pfL S) S i).1) (pfL S i) (sP (pfN c (pfL S) S i).1) < 3 * nI c
        · rw [if_pos z2]; exact e1
        · rw [if_neg z2, if_pos (t1.mpr ((hz.resolve_left z1).resolve_left z2))]; exact e1
    · have z1 : ¬ c = 0 := fun z => hz (Or.inl z)
      have z2 : ¬ pMa (sN (pfN c (pfL S) S i).1) (pfL S i) (sP (pfN c (pfL S) S i).1) < 3 * nI c := fun z => hz (Or.inr (Or.inl z))
      have z3 : ¬ pfL S i ≤ 1 := fun z => hz (Or.inr (Or.inr z))
      have eN : pfN c (pfL S) S (i + 1) = (sShk (pfL S i / 2) (sShk (pfL S i) (pfN c (pfL S) S i).1), (pfN c (pfL S) S i).2 + 1) := by
        show pfStep c (pfL S i) _ = _
        unfold pfStep; rw [if_neg hz]
      obtain ⟨w3, u1, u2, u3⟩ := pc_shock (a := pfL S i / 2) hh (by omega) (sShk_W l3 g1) s2
      obtain ⟨w2, e1, k1, k2⟩ := pc_pf hh hc hW d (i + 1) fuel w3 (by omega) (by omega) (by rw [eN]; exact u2)
      refine ⟨w2, ?_, k1, fun k hk => (k2 k hk).trans ((u3 k hk).trans (s3 k hk))⟩
      rw [eN] at e1
      rw [if_neg (nI_nle (by omega) (by omega)), if_neg z2, if_neg (fun z => z3 (t1.mp z)), u1, pz_b2]
      exact e1
theorem sPer_W {T : Nat} {S : pSt} (hW : pW T S) : pW (T + 96) (sPer S) := by
  have hq := hW.2.2.1
  obtain ⟨g1, g2, g3, g4⟩ := pfN_k (c := pKn (sP S) 3 (sN S)) hW (sQ S) (Nat.le_refl _)
  obtain ⟨h1, h2, h3, h4, h5, h6⟩ := g1.mo (T' := T + 96) (by omega)
  exact ⟨h1, h2, Nat.zero_le _, fun j hj => absurd hj (Nat.not_lt_zero _), h5, h6⟩
theorem pc_perf {w : qMem} {h T : Nat} {S : pSt} (hh : h < 12) (hW : pW T S) (H : pH w h S) : ∃ w1 : qMem, fX0_performProgramme w h = some (nI (pfX S).2, w1) ∧ pH w1 h (sPer S) ∧ ∀ k, (k < 19 * h ∨ 19 * h + 19 ≤ k) → w1 k = w k := by
  have hn := hW.1
  have hq := hW.2.2.1
  obtain ⟨w1, e1, k1, k2⟩ := pc_pf (c := pKn (sP S) 3 (sN S)) hh (Nat.le_trans (pKn_le _ _ _) hn) hW (sQ S) 0 100 w (by omega) (by omega) H
  refine ⟨quw (quw w1 (19 * h) 4 0) (19 * h) 7 (w1 (19 * h) 7 + nI (pfX S).2), ?_, ?_, fun k hk => ?_⟩
  · unfold fX0_performProgramme
    rw [pc_countOf hh hn H.1, pz_b]
    exact e1
  · have hn2 := (pfN_k (c := pKn (sP S) 3 (sN S)) hW (sQ S) (Nat.le_refl _)).1.1
    obtain ⟨⟨H1, H2⟩, H3, H4, H5⟩ := k1
    refine ⟨⟨?_, fun i hi k hk => ?_⟩, ?_, fun j hj => absurd hj (Nat.not_lt_zero _), fun k hk => ?_⟩
    · rw [pz_wk (by decide), pz_wk (by decide)]; exact H1
    · have hi' : i < sN (pfX S).1 := hi
      rw [pz_wn (by omega), pz_wn (by omega)]; exact H2 i hi k hk
    · rw [pz_wk (by decide), pz_w]; rfl
    · show quw _ _ _ _ _ _ = upd (sG (pfX S).1) 2 (sG (pfX S).1 2 + nI (pfX S).2) k
      by_cases z : k = 2
      · subst z
        rw [pz_w, pz_u]
        exact congrArg (· + _) (H5 2 (by decide))
      · rw [pz_wk (by omega), pz_wk (by omega), pz_un z]; exact H5 k hk
  · have hc1 : k ≠ 19 * h := by omega
    rw [pz_wr, pz_rn hc1, pz_wr, pz_rn hc1]; exact k2 k hk
