-- digits and numbers read by class and reference
def pDi (t : Nat → Int32) (L o : Nat) : Nat := if o < L ∧ ¬ t o < 48 ∧ ¬ 57 < t o then (t o - 48).toNatClampNeg else 10
theorem pDi_y {t : Nat → Int32} {L o : Nat} (h : o < L ∧ ¬ t o < 48 ∧ ¬ 57 < t o) : pDi t L o < 10 ∧ t o - 48 = nI (pDi t L o) := by
  unfold pDi
  rw [if_pos h]
  obtain ⟨_, h1, h2⟩ := h
  have e4 : (48 : Int32).toInt = 48 := by decide
  have e5 : (57 : Int32).toInt = 57 := by decide
  rw [Int32.lt_iff_toInt_lt, e4] at h1
  rw [Int32.lt_iff_toInt_lt, e5] at h2
  have e : t o = nI (t o).toInt.toNat := by
    apply Int32.toInt_inj.mp
    rw [nI_toInt (by omega)]; omega
  have e1 : t o - 48 = nI ((t o).toInt.toNat - 48) := by
    rw [e, show (48 : Int32) = nI 48 from rfl, pk_sub (by omega)]
    rw [nI_toInt (by omega)]; rfl
  rw [e1, nI_clamp (by omega)]
  exact ⟨by omega, rfl⟩
theorem pDi_n {t : Nat → Int32} {L o : Nat} (h : ¬ (o < L ∧ ¬ t o < 48 ∧ ¬ 57 < t o)) : pDi t L o = 10 := if_neg h
theorem pc_di {w : qMem} {t : Nat → Int32} {L o : Nat} (hL : L ≤ 60) (ho : o ≤ L) (H : pCs w t L o) : (pDi t L o = 10 ∧ fX4_readDigit w = some (-1, w)) ∨ (pDi t L o < 10 ∧ o < L ∧ ∃ w1 : qMem, fX4_readDigit w = some (nI (pDi t L o), w1) ∧ pCf w w1 (o + 1)) := by
  unfold fX4_readDigit
  rw [H.2.1, H.1, if_neg (nI_pos (by omega))]
  by_cases z : o < L
  · rw [if_neg (nI_ge z (by omega)), if_pos (show nI o < 60 from nI_lt (b := 60) (by omega) (by omega)), if_pos (pz_qin (by omega) (by omega)), pz_nI (by omega), H.2.2 o z, pz_nm]
    by_cases y : t o < 48
    · rw [if_pos y]; exact Or.inl ⟨pDi_n (fun q => q.2.1 y), rfl⟩
    · rw [if_neg y]
      by_cases x : 57 < t o
      · rw [if_neg (fun q => (pj_lt.mpr q) x)]; exact Or.inl ⟨pDi_n (fun q => q.2.2 x), rfl⟩
      · obtain ⟨d1, d2⟩ := pDi_y ⟨z, y, x⟩
        rw [if_pos (pj_lt.mp x), pz_nm, nI_1, d2]
        exact Or.inr ⟨d1, z, _, rfl, pCf.mk6 w (o + 1)⟩
  · rw [if_pos (nI_le (by omega) (by omega))]; exact Or.inl ⟨pDi_n (fun q => z q.1), rfl⟩
def pEn (n : Nat) : Int32 := if n = 100 then -1 else nI n
def pEe (n : Nat) : Int32 := if n = 100 then 1 else 0
