-- the law's row of ranks: the ends
theorem pt_f1 : ∀ s, s < 13 → ∀ c, c < 13 → 0 < c → Op.cmpValue (FP.fcmp (FP.fdiv (FP.i2f (nI s)) (FP.i2f (nI c))) (FP.fdiv (FP.i2f (nI s)) (FP.i2f (nI c)))) .l = 0 := by decide +kernel
theorem pBk_l (P : Nat → Nat → Int32) : ∀ n, pBk P n ≤ n
  | 0 => Nat.le_refl 0
  | n + 1 => by
    have ih := pBk_l P n
    show pBk P n + (if P n 4 = 0 then 0 else 1) ≤ n + 1
    split <;> omega
theorem pR_657 {T : Nat} {w : qMem} {S : pSt} {L : List pSt} (H : pIc T w S L) (hT : T < 2 ^ 30) (hB : pBq S) {M : Nat → Nat → Int32} (hM : gM (sN S) M (sP S)) : fL_ranks_L657 w (sN S) M (nI (pBk (sP S) (sN S))) (nI (sN S)) (nI (pKn (sP S) 1 (sN S))) 1 = some (1, w) := by
  have hn := H.1.1
  have a1 : fX5_account w 1 = some (0, nI (pKn (sP S) 1 (sN S)), w) := pa_acc H (k := 1) (by decide)
  have a2 : fX5_account w 2 = some (0, nI (pKn (sP S) 2 (sN S)), w) := pa_acc H (k := 2) (by decide)
  have a3 : fX5_account w 3 = some (0, nI (pKn (sP S) 3 (sN S)), w) := pa_acc H (k := 3) (by decide)
  have a4 : fX5_account w 4 = some (0, nI (pBk (sP S) (sN S)), w) := pa_acc H (k := 4) (by decide)
  have a9 : fX5_account w 9 = some (0, sG S 4, w) := pa_acc H (k := 9) (by decide)
  have f0 : fL_onFloor w 0 0 = some (-12, w) := rfl
  have f5 : fL_onFloor w 1 5 = some (-12, w) := rfl
  have c1 : fL_cupAt w (-1) = some (-13, w) := by
    rw [pA_cup]
    exact pA_none H hT (fun r hr z => absurd (show nI r < 0 by rw [z]; decide) (nI_pos (by have := pKn_le (sP S) 1 (sN S); omega)))
  have o9 : fL_of w (Int32.ofNat (sN S)) 9 = some (-11, w) := by
    unfold fL_of fX5_propOf
    rw [pa_num1 H (a := Int32.ofNat (sN S)) (Or.inr ⟨nI_pos (by omega), nI_nlt (a := sN S) (b := sN S) (Nat.le_refl _) (by omega)⟩)]
    rfl
  have b1 : fL_isBroken w (-1) = some (-11, w) := by
    unfold fL_isBroken fX5_isBroken
    rw [pa_num1 H (a := -1) (Or.inl (by decide))]
    rfl
  unfold fL_ranks_L657
  rw [if_neg (show ¬ (1 : Int32) = 0 by decide), if_pos (show nI (sN S) = Int32.ofNat (sN S) from rfl), a1, pz_b3, if_pos rfl, if_pos rfl, a2, pz_b3, if_pos rfl, pg_many hn hM, pz_b2, if_pos rfl, a3, pz_b3, if_pos rfl, pg_many hn hM, pz_b2, if_pos rfl, a4, pz_b3, if_pos rfl, if_pos rfl, a9, pz_b3, if_pos rfl, if_pos (show sG S 4 = nI (pBk (sP S) (sN S)) from hB), f0, pz_b2, if_pos rfl, f5, pz_b2, if_pos rfl, c1, pz_b2, if_pos rfl, o9, pz_b2, if_pos rfl, b1, pz_b2, if_pos rfl]
theorem pR_637 {T : Nat} {w : qMem} {S : pSt} {L : List pSt} (H : pIc T w S L) (hT : T < 2 ^ 30) (hB : pBq S) (h1 : 1 ≤ sN S) {M : Nat → Nat → Int32} (hM : gM (sN S) M (sP S)) : fL_ranks_L637 w (sN S) M (nI (pBk (sP S) (sN S))) (nI (sN S)) (nI (pKn (sP S) 1 (sN S))) = some (1, w) := by
  have hn := H.1.1
  have hb := pBk_l (sP S) (sN S)
  obtain ⟨q1, q2, q3⟩ := pt_61 (pBk (sP S) (sN S)) (by omega) (sN S) (by omega) (by omega)
  have q4 := pt_f1 (pBk (sP S) (sN S)) (by omega) (sN S) (by omega) (by omega)
  unfold fL_ranks_L637 fX5_brokenShare
  rw [H.n, if_neg (nI_ne0 (by omega) (by omega)), pc_cb (by decide) hn H.2.1.1, pz_b, if_pos q1, pz_b3, if_pos rfl, if_pos (show qn32 (FP.fdiv (FP.i2f (nI (pBk (sP S) (sN S)))) (FP.i2f (Int32.ofNat (sN S)))) = true from q1), if_pos (show Op.cmpValue (FP.fcmp _ (FP.fdiv (FP.i2f (nI (pBk (sP S) (sN S)))) (FP.i2f (Int32.ofNat (sN S))))) .l = 0 from q4)]
  exact pR_657 H hT hB hM
theorem pR_501 {T : Nat} {w : qMem} {S : pSt} {L : List pSt} (H : pIc T w S L) (hT : T < 2 ^ 30) (hB : pBq S) (h1 : 1 ≤ sN S) {M : Nat → Nat → Int32} (hM : gM (sN S) M (sP S)) : ∀ (d q fuel : Nat), q + d = 15 → d < fuel → fL_ranks_L501 fuel w (sN S) M (nI (pBk (sP S) (sN S))) (nI (pGr (sP S) (sN S))) (nI (pTt (sP S) (sN S) q)) (nI q) = some (1, w) := by
  have hn := H.1.1
  intro d
  induction d with
  | zero =>
    intro q fuel hi hfu
    obtain ⟨fuel, rfl⟩ : ∃ g, fuel = g + 1 := ⟨fuel - 1, by omega⟩
    obtain rfl : q = 15 := by omega
    have hg := pGr_le (sN S) H.1.2.1
    have hk := pKn_le (sP S) 1 (sN S)
    rw [fL_ranks_L501, if_pos (show (15 : Int32) ≤ nI 15 by decide), pg_many hn hM, pz_b2, pTt_15 (sN S) H.1.2.1]
    by_cases z : pKn (sP S) 1 (sN S) = 0
    · rw [if_pos (show nI (pKn (sP S) 1 (sN S)) = 0 by rw [z]; rfl)]
      exact pR_637 H hT hB h1 hM
    · obtain ⟨q1, q2⟩ := pt_60 (pGr (sP S) (sN S)) (by omega) (pKn (sP S) 1 (sN S)) (by omega) (by omega)
      have eg : fX0_sumOfGrades w 0 = some (nI (pGr (sP S) (sN S))) := pc_sg (h := 0) (by decide) hn H.1.2.1 H.2.1.1 (sN S) 0 100 (by omega) (by omega)
      have nz : ¬ nI (pKn (sP S) 1 (sN S)) = 0 := nI_ne0 (by omega) (by omega)
      have em : fX5_meanGrade w = some (0, FP.ddiv (FP.i2d (nI (pGr (sP S) (sN S)))) (FP.i2d (nI (pKn (sP S) 1 (sN S)))), w) := by
        unfold fX5_meanGrade
        rw [pc_countOf (by decide) hn H.2.1.1, pz_b, if_neg nz, eg, pz_b, if_pos q1]
      rw [if_neg nz, em, pz_b3, if_pos rfl, if_pos q1, if_pos q2]
      exact pR_637 H hT hB h1 hM
  | succ d ih =>
    intro q fuel hi hfu
    obtain ⟨fuel, rfl⟩ : ∃ g, fuel = g + 1 := ⟨fuel - 1, by omega⟩
    rw [fL_ranks_L501, if_neg (show ¬ (15 : Int32) ≤ nI q from nI_ge (b := 15) (by omega) (by omega)), pz_nm]
    refine Eq.trans (pR_522 H hM (by omega : q < 15) (sN S) 0 13 (by omega) (by omega)) ?_
    exact ih (q + 1) fuel (by omega) (by omega)
/-- the ranks -/
theorem pure_ranks {T : Nat} {w : qMem} {S : pSt} {L : List pSt} (H : pIc T w S L) (hT : T < 2 ^ 30) (hB : pBq S) (h1 : 1 ≤ sN S) : ∃ w1, fL_ranks w = some (1, w1) ∧ pIc T w1 S L := by
  have hn := H.1.1
  obtain ⟨M, e, hM⟩ := pg_props H
  refine ⟨w, ?_, H⟩
  unfold fL_ranks
  rw [e, pz_b3, pz_nm, pz_nm, pz_nm, pz_nm]
  refine Eq.trans (pR_32 H hT hM (sN S) 0 13 _ _ (by omega) (by omega) (fun b b1 b3 => ⟨fun _ => ?_, fun r h => absurd h (by omega)⟩)) ?_
  · rcases (show b = 1 ∨ b = 2 ∨ b = 3 by omega) with rfl | rfl | rfl <;> rfl
  refine Eq.trans (pR_314 H hM (sN S) 0 13 (by omega) (by omega)) ?_
  exact pR_501 H hT hB h1 hM 15 0 16 (by omega) (by omega)
