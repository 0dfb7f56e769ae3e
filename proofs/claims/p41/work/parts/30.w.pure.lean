-- the line looked at, a sign appended, the account
theorem pz_C {x : Int32} (h : pC1 x) : qisC x = true := by
  obtain ⟨m, hm, e⟩ := h
  subst e
  have e : (nI m).toInt = (m : Int) := nI_toInt (by omega)
  have z : (0 : Int32).toInt = 0 := by decide +kernel
  have z2 : (65535 : Int32).toInt = 65535 := by decide +kernel
  unfold qisC
  rw [Bool.and_eq_true, decide_eq_true_eq, decide_eq_true_eq, Int32.le_iff_toInt_le, Int32.le_iff_toInt_le, e, z, z2]
  omega
theorem pC1_u (x : Int32) : pC1 ((x.toUInt32 % 65536).toInt32) := ⟨x.toBitVec.toNat % 65536, by omega, pk_char x⟩
theorem pc_app {w : qMem} {n : Nat} {x : Int32} (hn : n < 60) (t1 : w 231 1 = nI n) (hC : qisC x = true) : ∃ w3 : qMem, fX4_put w x = some w3 ∧ w3 231 1 = nI (n + 1) ∧ w3 232 n = x ∧ (∀ j, j ≠ n → w3 232 j = w 232 j) ∧ ∀ c, c ≠ 231 → c ≠ 232 → w3 c = w c := by
  refine ⟨quw (quw w 232 n x) 231 1 (nI (n + 1)), ?_, pz_w, ?_, fun j hj => ?_, fun c h1 h2 => ?_⟩
  · unfold fX4_put
    rw [t1, if_neg (nI_pos (by omega)), if_neg (show ¬ (60 : Int32) ≤ nI n from nI_ge (b := 60) (by omega) (by omega)), if_pos (pz_qin (by omega) (by omega)), if_pos hC, pz_nI (by omega), pz_nm, pz_nm, pz_wn (by decide), t1, nI_1]
  · rw [pz_wn (by decide), pz_w]
  · rw [pz_wn (by decide), pz_wk hj]
  · rw [pz_wr, pz_rn h1, pz_wr, pz_rn h2]
-- how many are broken
def pBk (P : Nat → Nat → Int32) : Nat → Nat
  | 0 => 0
  | i + 1 => pBk P i + (if P i 4 = 0 then 0 else 1)
theorem pBk_le (P : Nat → Nat → Int32) : ∀ i, pBk P i ≤ i
  | 0 => Nat.le_refl 0
  | i + 1 => by have := pBk_le P i; simp only [pBk]; split <;> omega
theorem pc_cb_ {w : qMem} {h n : Nat} {P : Nat → Nat → Int32} (hh : h < 12) (hn : n ≤ 12) (H : pHC w h n P) : ∀ (d i fuel : Nat), i + d = n → d < fuel → fX0_countBroken_L4 w h fuel (nI (pBk P i)) (nI i) = some (nI (pBk P n))
  | 0, i, fuel + 1, e, _ => by
    have e : i = n := by omega
    subst e
    simp only [fX0_countBroken_L4, H.1]
    rw [if_pos (pz_ge (Nat.le_refl i) (by omega))]
  | d + 1, i, fuel + 1, e, hf => by
    have hi : i < n := by omega
    simp only [fX0_countBroken_L4, pz_at hh hn hi H.1, pz_b, pz_nm]
    rw [if_neg (by rw [H.1]; exact nI_ge hi (by omega)), if_pos (pz_P hh (by omega)), H.2 i hi 4 (by decide), nI_1, nI_1]
    have ih := pc_cb_ hh hn H d (i + 1) fuel (by omega) (by omega)
    by_cases h0 : P i 4 = 0
    · have e1 : pBk P (i + 1) = pBk P i := by simp only [pBk]; rw [if_pos h0]; rfl
      rw [if_pos h0, ← e1]; exact ih
    · have e1 : pBk P (i + 1) = pBk P i + 1 := by simp only [pBk]; rw [if_neg h0]
      rw [if_neg h0, ← e1]; exact ih
theorem pc_cb {w : qMem} {h n : Nat} {P : Nat → Nat → Int32} (hh : h < 12) (hn : n ≤ 12) (H : pHC w h n P) : fX0_countBroken w h = some (nI (pBk P n)) := pc_cb_ hh hn H n 0 100 (by omega) (by omega)
