-- the law's row of ranks: each prop in turn
theorem pR_bk {T : Nat} {w : qMem} {S : pSt} {L : List pSt} (H : pIc T w S L) {i : Nat} (hi : i < sN S) : fL_isBroken w (nI i) = some (sP S i 4, w) := by
  have hn := H.1.1
  have e4 : w (2 + i) 4 = sP S i 4 := H.2.1.1.2 i hi 4 (by decide)
  unfold fL_isBroken fX5_isBroken
  rw [pa_num H hi, pz_b3, if_pos rfl, if_pos (pz_P (by decide : 0 < 12) (by omega)), e4]
  rcases (H.1.2.1 i hi).b4 with z | z <;> rw [z] <;> rfl
theorem pR_of {T : Nat} {w : qMem} {S : pSt} {L : List pSt} (H : pIc T w S L) {i : Nat} (hi : i < sN S) : fL_of w (nI i) 7 = some (-12, w) := by
  have hn := H.1.1
  unfold fL_of fX5_propOf
  rw [pa_num H hi, pz_b3, if_pos rfl, if_pos (pz_P (by decide : 0 < 12) (by omega))]
  rfl
theorem pR_314s {T : Nat} {w : qMem} {S : pSt} {L : List pSt} (H : pIc T w S L) {M : Nat → Nat → Int32} (hM : gM (sN S) M (sP S)) {i : Nat} (hi : i < sN S) (fuel : Nat) : fL_ranks_L314 (fuel + 1) w (sN S) M (nI (pBk (sP S) i)) (nI (pGr (sP S) i)) 0 (nI i) = fL_ranks_L314 fuel w (sN S) M (nI (pBk (sP S) (i + 1))) (nI (pGr (sP S) (i + 1))) 0 (nI (i + 1)) := by
  have hn := H.1.1
  have m : ∀ k, k < 7 → M i k = sP S i k := fun k hk => hM i hi k hk
  have fin : ∀ x4 x5, fL_ranks_L457 (fL_ranks_L314 fuel) w (sN S) M x4 x5 0 (nI i) i 1 = fL_ranks_L314 fuel w (sN S) M x4 x5 0 (nI (i + 1)) := fun x4 x5 => by
    unfold fL_ranks_L457
    rw [if_neg (show ¬ (1 : Int32) = 0 by decide), pR_bk H hi, pz_b2, m 4 (by decide), if_pos rfl, pR_of H hi, pz_b2, if_pos rfl, pz_nm, nI_1]
  rw [fL_ranks_L314, if_neg (show ¬ Int32.ofNat (sN S) ≤ nI i from nI_ge (by omega) (by omega)), if_pos (pz_qin hi (by omega)), pz_nI (by omega), pz_nm, pz_nm, m 0 (by decide), m 4 (by decide), m 2 (by decide)]
  have eB : nI (pBk (sP S) i) + sP S i 4 = nI (pBk (sP S) (i + 1)) := by
    show _ = nI (pBk (sP S) i + (if sP S i 4 = 0 then 0 else 1))
    rcases (H.1.2.1 i hi).b4 with z | z
    · rw [z, if_pos rfl]; exact nI_add _ 0
    · rw [z, if_neg (by decide)]; exact nI_add _ 1
  rw [eB, ← fin]
  obtain ⟨f, mm, d, c, t, ⟨b1, b2, b3, b4⟩, h1, h2, h3, h5, h6, h | h | h⟩ := H.1.2.1 i hi
  · obtain ⟨h0, hm, hd, e4, hc⟩ := h
    have eG : nI (pGr (sP S) i) + sP S i 2 = nI (pGr (sP S) (i + 1)) := by
      show _ = nI (pGr (sP S) i + (if sP S i 0 = 1 then (sP S i 2).toNatClampNeg else 0))
      rw [if_pos h0, h2, pz_nI (by omega), nI_add]
    unfold fL_ranks_L354 fL_ranks_L382
    rw [if_pos h0, pz_nm, eG, m 0 (by decide), m 3 (by decide), m 4 (by decide), if_pos h0, h3, e4]
    by_cases z : d = 3
    · subst z
      rw [if_pos (show nI 3 = 3 from rfl), if_pos rfl, if_pos rfl, if_neg (show ¬ (4 : Int32) ≤ nI 3 by decide)]
    · rw [if_neg (show ¬ nI d = 3 from fun y => z (by rw [show (3 : Int32) = nI 3 from rfl, nI_eq (by omega) (by omega)] at y; exact y)), if_neg z, if_pos rfl, if_neg (show ¬ (4 : Int32) ≤ nI d from nI_ge (b := 4) (by omega) (by omega))]
  · obtain ⟨h0, hm, hd, e4⟩ := h
    have n1 : ¬ sP S i 0 = 1 := by rw [h0]; decide
    have eG : nI (pGr (sP S) i) + 0 = nI (pGr (sP S) (i + 1)) := by
      show _ = nI (pGr (sP S) i + (if sP S i 0 = 1 then (sP S i 2).toNatClampNeg else 0))
      rw [if_neg n1]; exact nI_add _ 0
    unfold fL_ranks_L354 fL_ranks_L427
    rw [if_neg n1, pz_nm, eG, m 0 (by decide), m 3 (by decide), m 4 (by decide), if_neg n1, if_pos h0, h3, e4]
    by_cases z : 20 < d
    · rw [if_neg (show ¬ nI d ≤ 20 from nI_ge (a := 20) (b := d) z (by omega)), if_pos z, if_pos rfl]
    · rw [if_pos (show nI d ≤ 20 from nI_le (a := d) (b := 20) (by omega) (by omega)), if_neg z, if_pos rfl]
  · obtain ⟨h0, hd, e4, hc⟩ := h
    have n1 : ¬ sP S i 0 = 1 := by rw [h0]; decide
    have n2 : ¬ sP S i 0 = 2 := by rw [h0]; decide
    have eG : nI (pGr (sP S) i) + 0 = nI (pGr (sP S) (i + 1)) := by
      show _ = nI (pGr (sP S) i + (if sP S i 0 = 1 then (sP S i 2).toNatClampNeg else 0))
      rw [if_neg n1]; exact nI_add _ 0
    unfold fL_ranks_L354
    rw [if_neg n1, pz_nm, eG, m 0 (by decide), m 3 (by decide), m 4 (by decide), if_neg n1, if_neg n2, h3, e4, hd, if_pos (show nI 0 = 0 from rfl), if_pos rfl]
theorem pR_314 {T : Nat} {w : qMem} {S : pSt} {L : List pSt} (H : pIc T w S L) {M : Nat → Nat → Int32} (hM : gM (sN S) M (sP S)) : ∀ (d i fuel : Nat), i + d = sN S → d < fuel → fL_ranks_L314 fuel w (sN S) M (nI (pBk (sP S) i)) (nI (pGr (sP S) i)) 0 (nI i) = fL_ranks_L501 16 w (sN S) M (nI (pBk (sP S) (sN S))) (nI (pGr (sP S) (sN S))) 0 0 := by
  have hn := H.1.1
  intro d
  induction d with
  | zero =>
    intro i fuel hi hfu
    obtain ⟨fuel, rfl⟩ : ∃ g, fuel = g + 1 := ⟨fuel - 1, by omega⟩
    obtain rfl : i = sN S := by omega
    rw [fL_ranks_L314, if_pos (show Int32.ofNat (sN S) ≤ nI (sN S) from nI_le (Nat.le_refl _) (by omega))]
  | succ d ih =>
    intro i fuel hi hfu
    obtain ⟨fuel, rfl⟩ : ∃ g, fuel = g + 1 := ⟨fuel - 1, by omega⟩
    rw [pR_314s H hM (by omega : i < sN S) fuel]
    exact ih (i + 1) fuel (by omega) (by omega)
