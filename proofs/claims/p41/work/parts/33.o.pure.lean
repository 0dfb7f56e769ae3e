-- the law's row of ranks: all places
theorem pR_42s {k32 : qMem → Nat → (Nat → Nat → Int32) → (Nat → Int32) → (Nat → Int32) → Int32 → Option (Int32 × qMem)} (k : Nat) {w : qMem} {n : Nat} {M : Nat → Nat → Int32} {f6 f10 : Nat → Int32} {x4 : Int32} {b : Nat} (hb : b = 1 ∨ b = 2 ∨ b = 3) : fL_ranks_L42 k32 (k + 1) w n M f6 f10 x4 (nI b) = qbd2 (pAtK w (nI b) x4) fun (r : Int32) (w1 : qMem) => fL_ranks_L84 (fL_ranks_L42 k32 k) w1 n M f6 f10 x4 (nI b) r := by
  rw [fL_ranks_L42]
  rcases hb with rfl | rfl | rfl
  · rw [if_neg (show ¬ (4 : Int32) ≤ nI 1 by decide), if_pos (show nI 1 = 1 from rfl), pA_cup]; rfl
  · rw [if_neg (show ¬ (4 : Int32) ≤ nI 2 by decide), if_neg (show ¬ nI 2 = 1 by decide), if_pos (show nI 2 = 2 from rfl), pA_lamp]; rfl
  · rw [if_neg (show ¬ (4 : Int32) ≤ nI 3 by decide), if_neg (show ¬ nI 3 = 1 by decide), if_neg (show ¬ nI 3 = 2 by decide), pA_cat]; rfl
theorem pR_42 {k32 : qMem → Nat → (Nat → Nat → Int32) → (Nat → Int32) → (Nat → Int32) → Int32 → Option (Int32 × qMem)} {T : Nat} {w : qMem} {S : pSt} {L : List pSt} (H : pIc T w S L) (hT : T < 2 ^ 30) {M : Nat → Nat → Int32} (hM : gM (sN S) M (sP S)) {f6 f10 : Nat → Int32} {a : Nat} (ha : a < 2 ^ 30) (hF : ∀ b, 1 ≤ b → b ≤ 3 → pFk (sP S) (sN S) b a (f10 b)) : ∃ f6' f10' : Nat → Int32, fL_ranks_L42 k32 4 w (sN S) M f6 f10 (nI a) 1 = k32 w (sN S) M f6' f10' (nI (a + 1)) ∧ ∀ b, 1 ≤ b → b ≤ 3 → pFk (sP S) (sN S) b (a + 1) (f10' b) := by
  obtain ⟨g1, h1, e1, k1, F1⟩ := pR_84 (k42 := fL_ranks_L42 k32 3) H hT hM (f6 := f6) (f10 := f10) (b := 1) ha (Or.inl rfl) (hF 1 (by decide) (by decide))
  obtain ⟨g2, h2, e2, k2, F2⟩ := pR_84 (k42 := fL_ranks_L42 k32 2) H hT hM (f6 := g1) (f10 := h1) (b := 2) ha (Or.inr (Or.inl rfl)) (by rw [k1 2 (by decide)]; exact hF 2 (by decide) (by decide))
  obtain ⟨g3, h3, e3, k3, F3⟩ := pR_84 (k42 := fL_ranks_L42 k32 1) H hT hM (f6 := g2) (f10 := h2) (b := 3) ha (Or.inr (Or.inr rfl)) (by rw [k2 3 (by decide), k1 3 (by decide)]; exact hF 3 (by decide) (by decide))
  refine ⟨g3, h3, ?_, fun b b1 b3 => ?_⟩
  · have s1 := pR_42s (k32 := k32) 3 (w := w) (n := sN S) (M := M) (f6 := f6) (f10 := f10) (x4 := nI a) (b := 1) (Or.inl rfl)
    have s2 := pR_42s (k32 := k32) 2 (w := w) (n := sN S) (M := M) (f6 := g1) (f10 := h1) (x4 := nI a) (b := 2) (Or.inr (Or.inl rfl))
    have s3 := pR_42s (k32 := k32) 1 (w := w) (n := sN S) (M := M) (f6 := g2) (f10 := h2) (x4 := nI a) (b := 3) (Or.inr (Or.inr rfl))
    refine (s1.trans e1).trans ((s2.trans e2).trans ((s3.trans e3).trans ?_))
    show fL_ranks_L42 k32 (0 + 1) w (sN S) M g3 h3 (nI a) (nI 4) = _
    rw [fL_ranks_L42, if_pos (show (4 : Int32) ≤ nI 4 by decide), pz_nm, nI_1]
  · rcases (show b = 1 ∨ b = 2 ∨ b = 3 by omega) with rfl | rfl | rfl
    · rw [k3 1 (by decide), k2 1 (by decide)]; exact F1
    · rw [k3 2 (by decide)]; exact F2
    · exact F3
theorem pR_32 {T : Nat} {w : qMem} {S : pSt} {L : List pSt} (H : pIc T w S L) (hT : T < 2 ^ 30) {M : Nat → Nat → Int32} (hM : gM (sN S) M (sP S)) : ∀ (d a fuel : Nat) (f6 f10 : Nat → Int32), a + d = sN S → d < fuel → (∀ b, 1 ≤ b → b ≤ 3 → pFk (sP S) (sN S) b a (f10 b)) → fL_ranks_L32 fuel w (sN S) M f6 f10 (nI a) = fL_ranks_L314 13 w (sN S) M 0 0 0 0 := by
  have hn := H.1.1
  intro d
  induction d with
  | zero =>
    intro a fuel f6 f10 ha hfu hF
    obtain ⟨fuel, rfl⟩ : ∃ g, fuel = g + 1 := ⟨fuel - 1, by omega⟩
    rw [fL_ranks_L32, if_pos (show Int32.ofNat (sN S) ≤ nI a from nI_le (by omega) (by omega))]
  | succ d ih =>
    intro a fuel f6 f10 ha hfu hF
    obtain ⟨fuel, rfl⟩ : ∃ g, fuel = g + 1 := ⟨fuel - 1, by omega⟩
    obtain ⟨g, h, e, F⟩ := pR_42 (k32 := fL_ranks_L32 fuel) H hT hM (f6 := f6) (f10 := f10) (a := a) (by omega) hF
    rw [fL_ranks_L32, if_neg (show ¬ Int32.ofNat (sN S) ≤ nI a from nI_ge (by omega) (by omega)), e]
    exact ih (a + 1) fuel g h (by omega) (by omega) F
