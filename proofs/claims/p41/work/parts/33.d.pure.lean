/-- the accounts of a state -/
def pAc (S : pSt) (k : Nat) : Int32 := if k = 0 then nI (sN S) else if k = 1 then nI (pKn (sP S) 1 (sN S)) else if k = 2 then nI (pKn (sP S) 2 (sN S)) else if k = 3 then nI (pKn (sP S) 3 (sN S)) else if k = 4 then nI (pBk (sP S) (sN S)) else if k = 10 then nI (sQ S) else sG S (k - 5)
theorem pa_acc {T : Nat} {w : qMem} {S : pSt} {L : List pSt} (H : pIc T w S L) {k : Nat} (hk : k ≤ 10) : fX5_account w (nI k) = some (0, pAc S k, w) := by
  have hn := H.1.1
  have h0 := H.2.1
  have g : ∀ j, j < 5 → w 0 (5 + j) = sG S j := fun j hj => h0.2.2.2 j hj
  rcases (show k = 0 ∨ k = 1 ∨ k = 2 ∨ k = 3 ∨ k = 4 ∨ k = 5 ∨ k = 6 ∨ k = 7 ∨ k = 8 ∨ k = 9 ∨ k = 10 by omega) with rfl | rfl | rfl | rfl | rfl | rfl | rfl | rfl | rfl | rfl | rfl
  · show some (0, w 0 2, w) = _
    rw [H.n]; rfl
  · show (qbd (fX0_countOf w 0 1) fun (r4 : Int32) => some (0, r4, w)) = _
    rw [pc_countOf (h := 0) (by decide) hn h0.1 1, pz_b]; rfl
  · show (qbd (fX0_countOf w 0 2) fun (r4 : Int32) => some (0, r4, w)) = _
    rw [pc_countOf (h := 0) (by decide) hn h0.1 2, pz_b]; rfl
  · show (qbd (fX0_countOf w 0 3) fun (r4 : Int32) => some (0, r4, w)) = _
    rw [pc_countOf (h := 0) (by decide) hn h0.1 3, pz_b]; rfl
  · show (qbd (fX0_countBroken w 0) fun (r4 : Int32) => some (0, r4, w)) = _
    rw [pc_cb (h := 0) (by decide) hn h0.1, pz_b]; rfl
  · show some (0, w 0 5, w) = _
    rw [g 0 (by decide)]; rfl
  · show some (0, w 0 6, w) = _
    rw [g 1 (by decide)]; rfl
  · show some (0, w 0 7, w) = _
    rw [g 2 (by decide)]; rfl
  · show some (0, w 0 8, w) = _
    rw [g 3 (by decide)]; rfl
  · show some (0, w 0 9, w) = _
    rw [g 4 (by decide)]; rfl
  · show some (0, w 0 4, w) = _
    have e := h0.2.1
    rw [show w 0 4 = nI (sQ S) from e]; rfl
theorem pa_num {T : Nat} {w : qMem} {S : pSt} {L : List pSt} (H : pIc T w S L) {i : Nat} (hi : i < sN S) : fX5_propNumbered w (nI i) = some (0, 2 + i, w) := by
  have hn := H.1.1
  unfold fX5_propNumbered
  have e := pz_at (h := 0) (by decide) hn hi H.2.1.1.1
  rw [show 19 * 0 + 2 + i = 2 + i by omega] at e
  have q := pz_P (h := 0) (i := i) (by decide) (by omega)
  rw [show 19 * 0 + 2 + i = 2 + i by omega] at q
  rw [if_neg (nI_pos (by omega)), H.n, if_pos (nI_lt hi (by omega)), e, pz_b, if_pos q]
theorem pa_num1 {T : Nat} {w : qMem} {S : pSt} {L : List pSt} (H : pIc T w S L) {a : Int32} (ha : a < 0 ∨ (¬ a < 0 ∧ ¬ a < nI (sN S))) : fX5_propNumbered w a = some (3, 0, w) := by
  unfold fX5_propNumbered
  rw [H.n]
  rcases ha with h | ⟨h1, h2⟩
  · rw [if_pos h]
  · rw [if_neg h1, if_neg h2]
theorem pIc.at {T : Nat} {w : qMem} {S : pSt} {L : List pSt} (H : pIc T w S L) {i : Nat} (hi : i < sN S) : pAg (w (2 + i)) (sP S i) := by
  have := H.2.1.1.2 i hi
  rw [show 19 * 0 + 2 + i = 2 + i by omega] at this
  exact this
theorem pIc.wf {T : Nat} {w : qMem} {S : pSt} {L : List pSt} (H : pIc T w S L) {i : Nat} (hi : i < sN S) : pWF T (sP S i) := H.1.2.1 i hi
theorem pL_of {T : Nat} {w : qMem} {S : pSt} {L : List pSt} (H : pIc T w S L) {i k : Nat} (hi : i < sN S) (hk : k < 7) : fL_of w (nI i) (nI k) = some (sP S i k, w) := by
  have ha := H.at hi
  unfold fL_of fX5_propOf
  have q := pz_P (h := 0) (i := i) (by decide) (by have := H.1.1; omega)
  rw [show 19 * 0 + 2 + i = 2 + i by omega] at q
  rw [pa_num H hi, pz_b3, if_pos rfl, if_pos q]
  have h4 := (H.wf hi).b4
  rcases (show k = 0 ∨ k = 1 ∨ k = 2 ∨ k = 3 ∨ k = 4 ∨ k = 5 ∨ k = 6 by omega) with rfl | rfl | rfl | rfl | rfl | rfl | rfl
  · rw [← ha 0 (by decide)]; rfl
  · rw [← ha 1 (by decide)]; rfl
  · rw [← ha 2 (by decide)]; rfl
  · rw [← ha 3 (by decide)]; rfl
  · rw [← ha 4 (by decide)] at h4 ⊢
    rw [if_neg (by decide), if_neg (by decide), if_neg (by decide), if_neg (by decide), if_pos (show nI 4 = 4 from rfl)]
    rcases h4 with h | h
    · rw [if_pos h, h]; rfl
    · rw [if_neg (by rw [h]; decide), h]; rfl
  · rw [← ha 5 (by decide)]; rfl
  · rw [← ha 6 (by decide)]; rfl
theorem pL_pr {T : Nat} {w : qMem} {S : pSt} {L : List pSt} (H : pIc T w S L) {j : Nat} (hj : j < sQ S) : fL_programme w (nI j) = some (sL S j, w) := by
  have hq := H.1.2.2.1
  unfold fL_programme fX5_programme fX0_plannedAt
  have e : w 0 4 = nI (sQ S) := H.2.1.2.1
  rw [if_neg (nI_pos (by omega)), e, if_pos (nI_lt hj (by omega)), if_neg (nI_pos (by omega)), if_neg (show ¬ (8 : Int32) ≤ nI j from nI_ge (b := 8) (by omega) (by decide)), if_pos (pz_qin (by omega) (by decide)), pz_nI (by omega), pz_b, qlw_0, H.2.1.2.2.1 j hj]
def hA (S : pSt) : Nat → Int64
  | 0 => 7
  | k + 1 => 31 * hA S k + Int32.toInt64 (pAc S k)
def hB (S : pSt) : Nat → Int64
  | 0 => hA S 11
  | k + 1 => 37 * hB S k + Int32.toInt64 (sP S (k / 7) (k % 7))
def hC (S : pSt) : Nat → Int64
  | 0 => hB S (7 * sN S)
  | k + 1 => 41 * hC S k + Int32.toInt64 (sL S k)
def hS (S : pSt) : Int64 := hC S (sQ S)
theorem pL_s3 {T : Nat} {w : qMem} {S : pSt} {L : List pSt} (H : pIc T w S L) : ∀ (d i fuel : Nat), i + d = sQ S → d < fuel → fL_sum_L73 fuel w (hC S i) (nI i) = some (hS S, w) := by
  have hq := H.1.2.2.1
  intro d
  induction d with
  | zero =>
    intro i fuel hi hfu
    obtain ⟨fuel, rfl⟩ : ∃ g, fuel = g + 1 := ⟨fuel - 1, by omega⟩
    rw [fL_sum_L73, show (10 : Int32) = nI 10 from rfl, pa_acc H (by decide), pz_b3, if_pos rfl, show pAc S 10 = nI (sQ S) from rfl, if_pos (nI_le (by omega) (by omega)), show i = sQ S by omega]; rfl
  | succ d ih =>
    intro i fuel hi hfu
    obtain ⟨fuel, rfl⟩ : ∃ g, fuel = g + 1 := ⟨fuel - 1, by omega⟩
    rw [fL_sum_L73, show (10 : Int32) = nI 10 from rfl, pa_acc H (by decide), pz_b3, if_pos rfl, show pAc S 10 = nI (sQ S) from rfl, if_neg (nI_ge (by omega) (by omega)), pL_pr H (by omega), pz_b2, pz_nm, pz_nm, nI_1]
    exact ih (i + 1) fuel (by omega) (by omega)
theorem pL_s2 {T : Nat} {w : qMem} {S : pSt} {L : List pSt} (H : pIc T w S L) : ∀ (d i fuel : Nat), i + d = 7 * sN S → d < fuel → fL_sum_L33 fuel w (hB S i) (nI i) = some (hS S, w) := by
  have hn := H.1.1
  have e7 : (7 : Int32) * nI (sN S) = nI (7 * sN S) := pk_mul 7 _
  intro d
  induction d with
  | zero =>
    intro i fuel hi hfu
    obtain ⟨fuel, rfl⟩ : ∃ g, fuel = g + 1 := ⟨fuel - 1, by omega⟩
    rw [fL_sum_L33, pa_0, pz_b3, if_pos rfl, H.n, e7, if_pos (nI_le (by omega) (by omega)), show i = 7 * sN S by omega]
    exact pL_s3 H (sQ S) 0 10 (by omega) (by have := H.1.2.2.1; omega)
  | succ d ih =>
    intro i fuel hi hfu
    obtain ⟨fuel, rfl⟩ : ∃ g, fuel = g + 1 := ⟨fuel - 1, by omega⟩
    rw [fL_sum_L33, pa_0, pz_b3, if_pos rfl, H.n, e7, if_neg (nI_ge (by omega) (by omega)), show nI i - nI i / 7 * 7 = nI (i % 7) from pu_rem (by omega) (by decide : 0 < 7) (by decide), show nI i / 7 = nI (i / 7) from pu_div (by omega) (by decide : 0 < 7) (by decide), pL_of H (by omega) (Nat.mod_lt _ (by decide)), pz_b2, pz_nm, pz_nm, nI_1]
    exact ih (i + 1) fuel (by omega) (by omega)
theorem pL_s1 {T : Nat} {w : qMem} {S : pSt} {L : List pSt} (H : pIc T w S L) : ∀ (d i fuel : Nat), i + d = 11 → d < fuel → fL_sum_L6 fuel w (hA S i) (nI i) = some (hS S, w) := by
  intro d
  induction d with
  | zero =>
    intro i fuel hi hfu
    obtain ⟨fuel, rfl⟩ : ∃ g, fuel = g + 1 := ⟨fuel - 1, by omega⟩
    rw [fL_sum_L6, show i = 11 by omega, if_pos (by decide)]
    exact pL_s2 H (7 * sN S) 0 86 (by omega) (by have := H.1.1; omega)
  | succ d ih =>
    intro i fuel hi hfu
    obtain ⟨fuel, rfl⟩ : ∃ g, fuel = g + 1 := ⟨fuel - 1, by omega⟩
    rw [fL_sum_L6, if_neg (show ¬ (11 : Int32) ≤ nI i from nI_ge (b := 11) (by omega) (by decide)), pa_acc H (by omega), pz_b3, if_pos rfl, pz_nm, pz_nm, nI_1]
    exact ih (i + 1) fuel (by omega) (by omega)
theorem pL_sum {T : Nat} {w : qMem} {S : pSt} {L : List pSt} (H : pIc T w S L) : fL_sum w = some (hS S, w) := pL_s1 H 11 0 12 rfl (by decide)
/-- a change undone -/
theorem pL_undo {T : Nat} {w : qMem} {S S1 : pSt} {L : List pSt} (H : pIc T w S (S1 :: L)) (hL : L.length ≤ 7) : ∃ (r : Int32) (w1 : qMem), fL_undo w = some (r, w1) ∧ ¬ r < 0 ∧ pIc T w1 S1 L := by
  obtain ⟨hW, hH, ⟨x, d, hx, hd, a1, a2, hLd, h6⟩, h231⟩ := H
  have hd0 : 0 < d := by
    have : (S1 :: L).length = L.length + 1 := rfl
    omega
  obtain ⟨q1, q2⟩ := h6 0 S1 rfl
  obtain ⟨w1, e1, k1, k2, k3, k4⟩ := pc_sb hx hd hd0 a1 a2 q1 q2
  refine ⟨nI (d - 1), w1, ?_, nI_pos (by omega), q1, k1, ⟨(x + 8) % 9, d - 1, by omega, by omega, k3, k4, ?_, fun j S2 hj => ?_⟩, ?_⟩
  · unfold fL_undo fX5_undo
    rw [a2, if_neg (nI_ne0 (by omega) (by omega)), e1, pz_b, k4]; rfl
  · have : (S1 :: L).length = L.length + 1 := rfl
    omega
  · have hl : j < L.length := (List.getElem?_eq_some_iff.mp hj).1
    obtain ⟨g1, g2⟩ := h6 (j + 1) S2 hj
    refine ⟨g1, ?_⟩
    rw [show ((x + 8) % 9 + 8 - j) % 9 = (x + 8 - (j + 1)) % 9 by omega]
    exact ph_same g1 (fun c b1 b2 => k2 c (by omega) (by omega)) g2
  · rw [k2 231 (by omega) (by omega)]; exact h231
