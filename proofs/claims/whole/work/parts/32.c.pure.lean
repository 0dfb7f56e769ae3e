-- digits and numbers read by class and reference
def pDi (t : Nat → Int32) (L o : Nat) : Nat := if o < L ∧ ¬ t o < 48 ∧ ¬ 57 < t o then (t o - 48).toNatClampNeg else 10
theorem pDi_y {t : Nat → Int32} {L o : Nat} (h : o < L ∧ ¬ t o < 48 ∧ ¬ 57 < t o) : pDi t L o < 10 ∧ t o - 48 = nI (pDi t L o) := by
  unfold pDi
  rw [if_pos h]
  obtain ⟨_, h1, h2⟩ := h
  have e4 : (48 : Int32).toInt = 48 := by decide
  have e5 : (57 : Int32).toInt = 57 := by decide
  rw [Int32.lt_iff_toInt_lt, e4] at h1
  rw [Int32.lt_iff_toInt_lt, e5] at h2
  have e : t o = nI (t o).toInt.toNat := by
    apply Int32.toInt_inj.mp
    rw [nI_toInt (by omega)]; omega
  have e1 : t o - 48 = nI ((t o).toInt.toNat - 48) := by
    rw [e, show (48 : Int32) = nI 48 from rfl, pk_sub (by omega)]
    rw [nI_toInt (by omega)]; rfl
  rw [e1, nI_clamp (by omega)]
  exact ⟨by omega, rfl⟩
theorem pDi_n {t : Nat → Int32} {L o : Nat} (h : ¬ (o < L ∧ ¬ t o < 48 ∧ ¬ 57 < t o)) : pDi t L o = 10 := if_neg h
theorem pc_di {w : qMem} {t : Nat → Int32} {L o : Nat} (hL : L ≤ 60) (ho : o ≤ L) (H : pCs w t L o) : (pDi t L o = 10 ∧ fX4_readDigit w = some (-1, w)) ∨ (pDi t L o < 10 ∧ o < L ∧ ∃ w1 : qMem, fX4_readDigit w = some (nI (pDi t L o), w1) ∧ pCf w w1 (o + 1)) := by
  unfold fX4_readDigit
  rw [H.2.1, H.1, if_neg (nI_pos (by omega))]
  by_cases z : o < L
  · rw [if_neg (nI_ge z (by omega)), if_pos (show nI o < 60 from nI_lt (b := 60) (by omega) (by omega)), if_pos (pz_qin (by omega) (by omega)), pz_nI (by omega), H.2.2 o z, pz_nm]
    by_cases y : t o < 48
    · rw [if_pos y]; exact Or.inl ⟨pDi_n (fun q => q.2.1 y), rfl⟩
    · rw [if_neg y]
      by_cases x : 57 < t o
      · rw [if_neg (fun q => (pj_lt.mpr q) x)]; exact Or.inl ⟨pDi_n (fun q => q.2.2 x), rfl⟩
      · obtain ⟨d1, d2⟩ := pDi_y ⟨z, y, x⟩
        rw [if_pos (pj_lt.mp x), pz_nm, nI_1, d2]
        exact Or.inr ⟨d1, z, _, rfl, pCf.mk6 w (o + 1)⟩
  · rw [if_pos (nI_le (by omega) (by omega))]; exact Or.inl ⟨pDi_n (fun q => z q.1), rfl⟩
theorem pr_di {w : qMem} {t : Nat → Int32} {L o : Nat} (hL : L ≤ 60) (ho : o ≤ L) (H : pRs w t L o 0) : (pDi t L o = 10 ∧ fX6_isHere w 48 57 = some 0 ∧ ∃ w1 : qMem, fX6_digit w = some (0, w1) ∧ pRf w w1 o 1) ∨ (pDi t L o < 10 ∧ o < L ∧ fX6_isHere w 48 57 = some 1 ∧ ∃ w1 : qMem, fX6_digit w = some (nI (pDi t L o), w1) ∧ pRf w w1 (o + 1) 0) := by
  unfold fX6_digit
  by_cases z : o < L ∧ ¬ t o < 48 ∧ ¬ 57 < t o
  · obtain ⟨d1, d2⟩ := pDi_y z
    obtain ⟨w1, e1, f1⟩ := pr_s1 hL ho H z
    refine Or.inr ⟨d1, z.1, by rw [pr_h0 hL ho H, if_pos z], w1, by rw [e1, pz_b2, d2], f1⟩
  · obtain ⟨w1, e1, f1⟩ := pr_s0 hL ho H z
    exact Or.inl ⟨pDi_n z, by rw [pr_h0 hL ho H, if_neg z], w1, by rw [e1, pz_b2], f1⟩
theorem pr_die {w : qMem} {t : Nat → Int32} {L o : Nat} (H : pRs w t L o 1) : ∃ w1 : qMem, fX6_digit w = some (0, w1) ∧ pRf w w1 o 1 := by
  obtain ⟨w1, e1, f1⟩ := pr_se H 48 57
  exact ⟨w1, by unfold fX6_digit; rw [e1, pz_b2], f1⟩
theorem pr_nue {w : qMem} {t : Nat → Int32} {L o : Nat} (H : pRs w t L o 1) : ∃ w1 : qMem, fX6_number w = some (0, w1) ∧ pRf w w1 o 1 := by
  obtain ⟨w1, e1, f1⟩ := pr_die H
  exact ⟨w1, by unfold fX6_number; rw [e1, pz_b2, pr_h1 (H.f f1), pz_b, if_pos rfl], f1⟩
def pEn (n : Nat) : Int32 := if n = 100 then -1 else nI n
def pEe (n : Nat) : Int32 := if n = 100 then 1 else 0
/-- a number of the reference: one digit, or up to two -/
def pRn (two : Bool) (w : qMem) : Option (Int32 × qMem) := if two = true then fX6_number w else fX6_digit w
theorem pt_84 : (qtx.getD 12 []).length = 1 ∧ (qtx.getD 12 []) = [32] := by decide +kernel
theorem pCm_b {t : Nat → Int32} {L o : Nat} : (o < L ∧ t o = 32 → pCm t L o (qtx.getD 12 []) = 1) ∧ (¬ (o < L ∧ t o = 32) → pCm t L o (qtx.getD 12 []) = 0) := by
  rw [pt_84.2]
  exact ⟨fun h => by rw [pCm_t h]; rfl, fun h => pCm_f h⟩
theorem pr_bl {w : qMem} {t : Nat → Int32} {L o : Nat} (hL : L ≤ 60) (ho : o ≤ L) (H : pRs w t L o 0) : ∃ w1 : qMem, fX6_skip w (qtx.getD 12 []) = some w1 ∧ ((o < L ∧ t o = 32) → pRf w w1 (o + 1) 0) ∧ (¬ (o < L ∧ t o = 32) → pRf w w1 o 1) := by
  obtain ⟨w1, e1, f1⟩ := pr_sk hL ho H (ts := qtx.getD 12 []) (by rw [pt_84.1]; decide)
  refine ⟨w1, e1, fun h => ?_, fun h => ?_⟩
  · rw [pCm_b.1 h, pt_84.1, if_pos rfl] at f1; exact f1
  · rw [pCm_b.2 h, pt_84.1, if_neg (by decide)] at f1; exact f1
theorem pb_num (two : Bool) {t : Nat → Int32} {L o : Nat} (hL : L ≤ 60) (ho : o ≤ L) : ∃ (o' n : Nat), o ≤ o' ∧ o' ≤ L ∧ n ≤ 100 ∧ (n ≠ 100 → o + 2 ≤ o') ∧ (∀ w : qMem, pCs w t L o → ∃ w1 : qMem, fX4_readNumber w (if two = true then 2 else 1) = some (pEn n, w1) ∧ pCf w w1 o') ∧ ∀ w : qMem, pRs w t L o 0 → ∃ (w1 w2 : qMem) (r : Int32), fX6_skip w (qtx.getD 12 []) = some w1 ∧ pRn two w1 = some (r, w2) ∧ pRf w w2 o' (pEe n) ∧ (n ≠ 100 → r = nI n) := by
  by_cases b : o < L ∧ t o = 32
  · have ho1 : o + 1 ≤ L := b.1
    by_cases d1 : pDi t L (o + 1) = 10
    · refine ⟨o + 1, 100, by omega, ho1, Nat.le_refl _, fun q => absurd rfl q, fun w H => ?_, fun w H => ?_⟩
      · obtain ⟨w1, e1, f1⟩ := pc_sg1 hL ho H b
        refine ⟨w1, ?_, f1⟩
        unfold fX4_readNumber
        rw [e1, pz_b2, if_neg (by decide)]
        rcases pc_di hL ho1 (H.f f1) with ⟨_, e2⟩ | ⟨q, _⟩
        · rw [e2, pz_b2, if_pos (by decide)]; rfl
        · omega
      · obtain ⟨w1, e1, f1, _⟩ := pr_bl hL ho H
        have f1 := f1 b
        rcases pr_di hL ho1 (H.f f1) with ⟨_, _, w2, e2, f2⟩ | ⟨q, _⟩
        · refine ⟨w1, w2, 0, e1, ?_, f1.tr f2, fun q => absurd rfl q⟩
          unfold pRn
          by_cases z : two = true
          · rw [if_pos z]; unfold fX6_number
            rw [e2, pz_b2, pr_h1 ((H.f f1).f f2), pz_b, if_pos rfl]
          · rw [if_neg z]; exact e2
        · omega
    · by_cases d2 : two = true ∧ pDi t L (o + 2) ≠ 10
      · have q2 : o + 2 < L := Classical.byContradiction fun q => d2.2 (pDi_n (fun y => q y.1))
        have k1 : pDi t L (o + 1) < 10 := Classical.byContradiction fun q => by
          by_cases y : o + 1 < L ∧ ¬ t (o + 1) < 48 ∧ ¬ 57 < t (o + 1)
          · exact q (pDi_y y).1
          · exact d1 (pDi_n y)
        have k2 : pDi t L (o + 2) < 10 := Classical.byContradiction fun q => by
          by_cases y : o + 2 < L ∧ ¬ t (o + 2) < 48 ∧ ¬ 57 < t (o + 2)
          · exact q (pDi_y y).1
          · exact d2.2 (pDi_n y)
        refine ⟨o + 3, 10 * pDi t L (o + 1) + pDi t L (o + 2), by omega, by omega, by omega, fun _ => by omega, fun w H => ?_, fun w H => ?_⟩
        · obtain ⟨w1, e1, f1⟩ := pc_sg1 hL ho H b
          rcases pc_di hL ho1 (H.f f1) with ⟨q, _⟩ | ⟨_, _, w2, e2, f2⟩
          · exact absurd q d1
          · rcases pc_di (o := o + 2) hL (by omega) ((H.f f1).f f2) with ⟨q, _⟩ | ⟨_, _, w3, e3, f3⟩
            · exact absurd q d2.2
            · refine ⟨w3, ?_, (f1.tr f2).tr f3⟩
              unfold fX4_readNumber
              rw [e1, pz_b2, if_neg (by decide), e2, pz_b2, if_neg (nI_pos (by omega)), if_pos d2.1, if_neg (by decide), e3, pz_b2, if_neg (nI_pos (by omega)), pEn, if_neg (by omega), show (10 : Int32) = nI 10 from rfl, pk_mul, nI_add, Nat.mul_comm]
        · obtain ⟨w1, e1, f1, _⟩ := pr_bl hL ho H
          have f1 := f1 b
          rcases pr_di hL ho1 (H.f f1) with ⟨q, _⟩ | ⟨_, _, _, w2, e2, f2⟩
          · exact absurd q d1
          · rcases pr_di (o := o + 2) hL (by omega) ((H.f f1).f f2) with ⟨q, _⟩ | ⟨_, _, eh, w3, e3, f3⟩
            · exact absurd q d2.2
            · refine ⟨w1, w3, nI (10 * pDi t L (o + 1) + pDi t L (o + 2)), e1, ?_, ?_, fun _ => rfl⟩
              · unfold pRn
                rw [if_pos d2.1]; unfold fX6_number
                rw [e2, pz_b2, eh, pz_b, if_neg (by decide), e3, pz_b2, show (10 : Int32) = nI 10 from rfl, pk_mul, nI_add]
              · rw [pEe, if_neg (by omega)]; exact (f1.tr f2).tr f3
      · have k1 : pDi t L (o + 1) < 10 := Classical.byContradiction fun q => by
          by_cases y : o + 1 < L ∧ ¬ t (o + 1) < 48 ∧ ¬ 57 < t (o + 1)
          · exact q (pDi_y y).1
          · exact d1 (pDi_n y)
        have q1 : o + 1 < L := Classical.byContradiction fun q => d1 (pDi_n (fun y => q y.1))
        refine ⟨o + 2, pDi t L (o + 1), by omega, by omega, by omega, fun _ => by omega, fun w H => ?_, fun w H => ?_⟩
        · obtain ⟨w1, e1, f1⟩ := pc_sg1 hL ho H b
          rcases pc_di hL ho1 (H.f f1) with ⟨q, _⟩ | ⟨_, _, w2, e2, f2⟩
          · exact absurd q d1
          · refine ⟨w2, ?_, f1.tr f2⟩
            unfold fX4_readNumber
            rw [e1, pz_b2, if_neg (by decide), e2, pz_b2, if_neg (nI_pos (by omega)), pEn, if_neg (show ¬ pDi t L (o + 1) = 100 by omega)]
            by_cases z : two = true
            · have e10 : pDi t L (o + 2) = 10 := Classical.byContradiction fun q => d2 ⟨z, q⟩
              rcases pc_di (o := o + 2) hL (by omega) ((H.f f1).f f2) with ⟨_, e3⟩ | ⟨q, _⟩
              · rw [if_pos z, if_neg (by decide), e3, pz_b2, if_pos (by decide)]
              · omega
            · rw [if_neg z, if_pos (by decide)]
        · obtain ⟨w1, e1, f1, _⟩ := pr_bl hL ho H
          have f1 := f1 b
          rcases pr_di hL ho1 (H.f f1) with ⟨q, _⟩ | ⟨_, _, _, w2, e2, f2⟩
          · exact absurd q d1
          · refine ⟨w1, w2, nI (pDi t L (o + 1)), e1, ?_, ?_, fun _ => rfl⟩
            · unfold pRn
              by_cases z : two = true
              · have e10 : pDi t L (o + 2) = 10 := Classical.byContradiction fun q => d2 ⟨z, q⟩
                rcases pr_di (o := o + 2) hL (by omega) ((H.f f1).f f2) with ⟨_, eh, _⟩ | ⟨q, _⟩
                · rw [if_pos z]; unfold fX6_number
                  rw [e2, pz_b2, eh, pz_b, if_pos rfl]
                · omega
              · rw [if_neg z]; exact e2
            · rw [pEe, if_neg (by omega)]; exact f1.tr f2
  · refine ⟨o, 100, Nat.le_refl _, ho, Nat.le_refl _, fun q => absurd rfl q, fun w H => ?_, fun w H => ?_⟩
    · refine ⟨w, ?_, pCf.rf H⟩
      unfold fX4_readNumber
      rw [pc_sg0 hL ho H b, pz_b2, if_pos rfl]; rfl
    · obtain ⟨w1, e1, _, f1⟩ := pr_bl hL ho H
      have f1 := f1 b
      unfold pRn
      by_cases z : two = true
      · obtain ⟨w2, e2, f2⟩ := pr_nue (H.f f1)
        exact ⟨w1, w2, 0, e1, by rw [if_pos z]; exact e2, f1.tr f2, fun q => absurd rfl q⟩
      · obtain ⟨w2, e2, f2⟩ := pr_die (H.f f1)
        exact ⟨w1, w2, 0, e1, by rw [if_neg z]; exact e2, f1.tr f2, fun q => absurd rfl q⟩
