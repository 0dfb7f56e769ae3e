-- the law's row of ranks: the floors
def pTt (P : Nat → Nat → Int32) (n : Nat) : Nat → Nat
  | 0 => 0
  | q + 1 => pTt P n q + pCn P (nI (1 + q / 5)) (nI (q % 5)) n
def pI1 (k f : Int32) : Nat → Nat
  | 0 => 0
  | q + 1 => pI1 k f q + (if k = nI (1 + q / 5) ∧ f = nI (q % 5) then 1 else 0)
theorem pI1_1 : ∀ K, K < 4 → 1 ≤ K → ∀ f, f < 5 → pI1 (nI K) (nI f) 15 = 1 := by decide +kernel
theorem pTt_s (P : Nat → Nat → Int32) (n : Nat) : ∀ q, pTt P (n + 1) q = pTt P n q + pI1 (P n 0) (P n 1) q
  | 0 => rfl
  | q + 1 => by
    have ih := pTt_s P n q
    show pTt P (n + 1) q + (pCn P (nI (1 + q / 5)) (nI (q % 5)) n + (if P n 0 = nI (1 + q / 5) ∧ P n 1 = nI (q % 5) then 1 else 0)) = (pTt P n q + pCn P (nI (1 + q / 5)) (nI (q % 5)) n) + (pI1 (P n 0) (P n 1) q + (if P n 0 = nI (1 + q / 5) ∧ P n 1 = nI (q % 5) then 1 else 0))
    omega
theorem pTt_0 (P : Nat → Nat → Int32) : ∀ q, pTt P 0 q = 0
  | 0 => rfl
  | q + 1 => by
    have ih := pTt_0 P q
    show pTt P 0 q + 0 = 0
    omega
theorem pTt_15 {T : Nat} {P : Nat → Nat → Int32} : ∀ n, (∀ i, i < n → pWF T (P i)) → pTt P n 15 = n
  | 0, _ => pTt_0 P 15
  | n + 1, hW => by
    rw [pTt_s, pTt_15 n (fun i hi => hW i (by omega))]
    obtain ⟨f, hf, ef⟩ := (hW n (by omega)).fl
    rw [ef]
    rcases (hW n (by omega)).k with z | z | z <;> rw [z]
    · rw [show (1 : Int32) = nI 1 from rfl, pI1_1 1 (by decide) (by decide) f hf]
    · rw [show (2 : Int32) = nI 2 from rfl, pI1_1 2 (by decide) (by decide) f hf]
    · rw [show (3 : Int32) = nI 3 from rfl, pI1_1 3 (by decide) (by decide) f hf]
theorem pR_on {T : Nat} {w : qMem} {S : pSt} {L : List pSt} (H : pIc T w S L) {q : Nat} (hq : q < 15) : fL_onFloor w (nI (1 + q / 5)) (nI (q % 5)) = some (nI (pCn (sP S) (nI (1 + q / 5)) (nI (q % 5)) (sN S)), w) := by
  have hn := H.1.1
  unfold fL_onFloor fX5_onFloor
  rw [if_neg (show ¬ nI (1 + q / 5) < 1 from nI_nlt (a := 1 + q / 5) (b := 1) (by omega) (by omega)), if_neg (show ¬ (3 : Int32) < nI (1 + q / 5) from nI_nlt (a := 3) (b := 1 + q / 5) (by omega) (by omega)), pz_fl (by omega), pz_b, if_neg (by decide), pc_countOn (by decide) hn H.2.1.1, pz_b, qlw_0]
theorem pR_522 {k501 : qMem → Nat → (Nat → Nat → Int32) → Int32 → Int32 → Int32 → Int32 → Option (Int32 × qMem)} {T : Nat} {w : qMem} {S : pSt} {L : List pSt} (H : pIc T w S L) {M : Nat → Nat → Int32} (hM : gM (sN S) M (sP S)) {x4 x5 : Int32} {q : Nat} (hq : q < 15) : ∀ (d i fuel : Nat), i + d = sN S → d < fuel → fL_ranks_L522 k501 fuel w (sN S) M x4 x5 (nI (pTt (sP S) (sN S) q)) (nI q) (nI (pCn (sP S) (nI (1 + q / 5)) (nI (q % 5)) i)) (nI (sN S)) (nI i) = k501 w (sN S) M x4 x5 (nI (pTt (sP S) (sN S) (q + 1))) (nI (q + 1)) := by
  have hn := H.1.1
  have eK : (1 : Int32) + nI q / 5 = nI (1 + q / 5) := by
    rw [show nI q / 5 = nI (q / 5) from pu_div (by omega) (by decide : 0 < 5) (by decide)]; exact nI_add 1 _
  have eF : nI q - nI q / 5 * 5 = nI (q % 5) := pu_rem (by omega) (by decide : 0 < 5) (by decide)
  intro d
  induction d with
  | zero =>
    intro i fuel hi hfu
    obtain ⟨fuel, rfl⟩ : ∃ g, fuel = g + 1 := ⟨fuel - 1, by omega⟩
    obtain rfl : i = sN S := by omega
    rw [fL_ranks_L522, if_pos (nI_le (Nat.le_refl _) (by omega)), pz_nm, eK, eF, pR_on H hq, pz_b2, if_pos rfl, pz_nm, nI_1, nI_add]
    rfl
  | succ d ih =>
    intro i fuel hi hfu
    obtain ⟨fuel, rfl⟩ : ∃ g, fuel = g + 1 := ⟨fuel - 1, by omega⟩
    have hin : i < sN S := by omega
    rw [fL_ranks_L522, if_neg (nI_ge hin (by omega)), if_pos (pz_qin hin (by omega)), pz_nI (by omega), pz_nm, eK, eF, hM i hin 0 (by decide), hM i hin 1 (by decide), ← ih (i + 1) fuel (by omega) (by omega)]
    show _ = fL_ranks_L522 k501 fuel w (sN S) M x4 x5 _ (nI q) (nI (pCn (sP S) (nI (1 + q / 5)) (nI (q % 5)) i + (if sP S i 0 = nI (1 + q / 5) ∧ sP S i 1 = nI (q % 5) then 1 else 0))) _ _
    by_cases z0 : sP S i 0 = nI (1 + q / 5)
    · by_cases z1 : sP S i 1 = nI (q % 5)
      · rw [if_pos z0, if_pos z1, if_pos ⟨z0, z1⟩, pz_nm, pz_nm, nI_1, nI_1]
      · rw [if_pos z0, if_neg z1, if_neg (fun y => z1 y.2), pz_nm, pz_nm, nI_1, Int32.add_zero]
        rfl
    · rw [if_neg z0, if_neg (fun y => z0 y.1), pz_nm, pz_nm, nI_1, Int32.add_zero]
      rfl
