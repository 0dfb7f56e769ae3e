-- the law's row of ranks: one kind at one place
abbrev pK42 := qMem → Nat → (Nat → Nat → Int32) → (Nat → Int32) → (Nat → Int32) → Int32 → Int32 → Option (Int32 × qMem)
def pFk (P : Nat → Nat → Int32) (n b a : Nat) (v : Int32) : Prop := (a = 0 → v = -1) ∧ ∀ r, r + 1 = a → r < pKn P (nI b) n → ∃ i, i < n ∧ P i 0 = nI b ∧ pRk P (nI b) n i = r ∧ v = nI i
theorem pR_255 {k42 : pK42} {w : qMem} {n : Nat} {M : Nat → Nat → Int32} {f6 f10 : Nat → Int32} {x4 x5 : Int32} {i i0 q : Nat} (hi : i < 2 ^ 31) (hq : q < 2 ^ 31) (h : q = 0 → i0 ≤ i) : fL_ranks_L255 k42 w n M f6 f10 x4 x5 (nI i) (nI i0) (nI q) = fL_ranks_L276 k42 w n M f6 f10 x4 x5 (nI i) := by
  unfold fL_ranks_L255
  rw [if_neg (nI_pos hq)]
  by_cases z : q = 0
  · subst z
    rw [if_pos (show nI 0 = 0 from rfl), if_pos (nI_le (h rfl) hi)]
  · rw [if_neg (nI_ne0 (by omega) hq)]
theorem pR_198 {k42 : pK42} {w : qMem} {n : Nat} {M P : Nat → Nat → Int32} (hn : n ≤ 12) (hM : gM n M P) {T : Nat} (hT : T < 2 ^ 30) (hW : ∀ i, i < n → pWF T (P i)) {f6 f10 : Nat → Int32} {x4 : Int32} {b i i0 : Nat} (hb : b = 1 ∨ b = 2 ∨ b = 3) (hi : i < n) (hi0 : i0 < n) (hk : P i 0 = nI b) (hk0 : P i0 0 = nI b) (h : pKy (P i) < pKy (P i0) ∨ (pKy (P i0) = pKy (P i) ∧ i0 < i)) {s0 : Int32} (hs : s0 = if b = 1 then M i0 2 - M i 2 else if b = 2 then M i0 3 - M i 3 else M i0 6 - M i 6) : fL_ranks_L198 k42 w n M f6 f10 x4 (nI b) (nI i) (nI i0) s0 = fL_ranks_L276 k42 w n M f6 f10 x4 (nI b) (nI i) := by
  unfold fL_ranks_L198
  rcases hb with rfl | rfl | rfl
  · obtain ⟨m, d, hm, hd, e2, e3, ek⟩ := pKy_1 (hW i hi) hk
    obtain ⟨m0, d0, hm0, hd0, f2, f3, fk⟩ := pKy_1 (hW i0 hi0) hk0
    rw [if_pos rfl, hM i0 hi0 2 (by decide), hM i hi 2 (by decide), e2, f2, pk_sub (by omega : m ≤ m0)] at hs
    subst hs
    by_cases z : m0 - m = 0
    · rw [z, if_pos (show nI 0 = 0 from rfl), if_pos (show nI 1 = 1 from rfl), if_pos (pz_qin hi (by omega)), pz_nI (by omega), pz_nm, if_pos (pz_qin hi0 (by omega)), pz_nI (by omega), pz_nm, hM i0 hi0 3 (by decide), hM i hi 3 (by decide), e3, f3, pk_sub (by omega : d0 ≤ d)]
      exact pR_255 (by omega) (by omega) (fun q => by omega)
    · rw [if_neg (nI_ne0 (by omega) (by omega))]
      exact pR_255 (by omega) (by omega) (fun q => absurd q z)
  · obtain ⟨m, d, hm, hd, e2, e3, ek⟩ := pKy_2 (hW i hi) hk
    obtain ⟨m0, d0, hm0, hd0, f2, f3, fk⟩ := pKy_2 (hW i0 hi0) hk0
    rw [if_neg (show ¬ (2 : Nat) = 1 by decide), if_pos rfl, hM i0 hi0 3 (by decide), hM i hi 3 (by decide), e3, f3, pk_sub (by omega : d ≤ d0)] at hs
    subst hs
    by_cases z : d0 - d = 0
    · rw [z, if_pos (show nI 0 = 0 from rfl), if_neg (show ¬ nI 2 = 1 by decide), if_pos (show nI 2 = 2 from rfl), if_pos (pz_qin hi0 (by omega)), pz_nI (by omega), pz_nm, if_pos (pz_qin hi (by omega)), pz_nI (by omega), pz_nm, hM i0 hi0 2 (by decide), hM i hi 2 (by decide), e2, f2, pk_sub (by omega : m ≤ m0)]
      exact pR_255 (by omega) (by omega) (fun q => by omega)
    · rw [if_neg (nI_ne0 (by omega) (by omega))]
      exact pR_255 (by omega) (by omega) (fun q => absurd q z)
  · obtain ⟨t, ht, e6, ek⟩ := pKy_3 hT (hW i hi) hk
    obtain ⟨t0, ht0, f6', fk⟩ := pKy_3 hT (hW i0 hi0) hk0
    rw [if_neg (show ¬ (3 : Nat) = 1 by decide), if_neg (show ¬ (3 : Nat) = 2 by decide), hM i0 hi0 6 (by decide), hM i hi 6 (by decide), e6, f6', pk_sub (by omega : t ≤ t0)] at hs
    subst hs
    by_cases z : t0 - t = 0
    · rw [z, if_pos (show nI 0 = 0 from rfl), if_neg (show ¬ nI 3 = 1 by decide), if_neg (show ¬ nI 3 = 2 by decide)]
      exact pR_255 (q := 0) (by omega) (by omega) (fun q => by omega)
    · rw [if_neg (nI_ne0 (by omega) (by omega))]
      exact pR_255 (by omega) (by omega) (fun q => absurd q z)
theorem pR_276 {k42 : pK42} {w : qMem} {n : Nat} {M : Nat → Nat → Int32} {f6 f10 : Nat → Int32} {x4 : Int32} {b : Nat} {x6 : Int32} (hb : b < 4) : fL_ranks_L276 k42 w n M f6 f10 x4 (nI b) x6 = k42 w n M (upd f6 b (f6 b + 1)) (upd f10 b x6) x4 (nI (b + 1)) := by
  unfold fL_ranks_L276
  rw [if_pos (pz_qin hb (by omega)), pz_nI (by omega), pz_nm, if_pos (pz_qin hb (by omega)), if_pos (pz_qin hb (by omega)), pz_nm, pz_nm, nI_1]
theorem pR_84 {k42 : pK42} {T : Nat} {w : qMem} {S : pSt} {L : List pSt} (H : pIc T w S L) (hT : T < 2 ^ 30) {M : Nat → Nat → Int32} (hM : gM (sN S) M (sP S)) {f6 f10 : Nat → Int32} {a b : Nat} (ha : a < 2 ^ 30) (hb : b = 1 ∨ b = 2 ∨ b = 3) (hF : pFk (sP S) (sN S) b a (f10 b)) : ∃ f6' f10' : Nat → Int32, (qbd2 (pAtK w (nI b) (nI a)) fun (r : Int32) (w1 : qMem) => fL_ranks_L84 k42 w1 (sN S) M f6 f10 (nI a) (nI b) r) = k42 w (sN S) M f6' f10' (nI a) (nI (b + 1)) ∧ (∀ k, k ≠ b → f10' k = f10 k) ∧ pFk (sP S) (sN S) b (a + 1) (f10' b) := by
  have hn := H.1.1
  have hle := pKn_le (sP S) (nI b) (sN S)
  by_cases hr : a < pKn (sP S) (nI b) (sN S)
  · obtain ⟨i, hi, hk, er, e⟩ := pA_some H hT hr
    refine ⟨upd f6 b (f6 b + 1), upd f10 b (nI i), ?_, fun k hk' => by simp only [upd]; rw [if_neg hk'], fun z => absurd z (by omega), fun r h1 h2 => ⟨i, hi, hk, by omega, if_pos (by rfl)⟩⟩
    rw [e, pz_b2, ← pR_276 (k42 := k42) (w := w) (n := sN S) (M := M) (f6 := f6) (f10 := f10) (x4 := nI a) (x6 := nI i) (by omega : b < 4)]
    unfold fL_ranks_L84
    rw [pg_many hn hM, pz_b2, if_pos (nI_lt hr (by omega)), if_neg (nI_pos (by omega)), if_pos (pz_qin hi (by omega)), pz_nI (by omega), pz_nm, hM i hi 0 (by decide), if_pos hk, if_pos (pz_qin (show b < 4 by omega) (by omega)), pz_nI (by omega), pz_nm]
    by_cases ha0 : a = 0
    · rw [hF.1 ha0, if_neg (show ¬ (0 : Int32) ≤ -1 by decide)]
      unfold fL_ranks_L198 fL_ranks_L255
      rw [if_neg (by decide), if_neg (by decide), if_neg (by decide)]
    · obtain ⟨i0, hi0, hk0, er0, e0⟩ := hF.2 (a - 1) (by omega) (by omega)
      have key := pA_key hi0 hi hk0 hk (by omega)
      rw [e0, if_pos (nI_nn i0 (by omega)), ← pR_198 (k42 := k42) (w := w) (f6 := f6) (f10 := f10) (x4 := nI a) hn hM hT H.1.2.1 hb hi hi0 hk hk0 key rfl]
      rcases hb with rfl | rfl | rfl
      · rw [if_pos (show nI 1 = 1 from rfl), if_pos (pz_qin hi0 (by omega)), pz_nI (by omega), pz_nm, if_pos (pz_qin hi (by omega)), pz_nm, if_pos rfl]
      · rw [if_neg (show ¬ nI 2 = 1 by decide), if_pos (show nI 2 = 2 from rfl), if_pos (pz_qin hi0 (by omega)), pz_nI (by omega), pz_nm, if_pos (pz_qin hi (by omega)), pz_nm, if_neg (by decide), if_pos rfl]
      · rw [if_neg (show ¬ nI 3 = 1 by decide), if_neg (show ¬ nI 3 = 2 by decide), if_pos (pz_qin hi0 (by omega)), pz_nI (by omega), pz_nm, if_pos (pz_qin hi (by omega)), pz_nm, if_neg (by decide), if_neg (by decide)]
  · have e := pA_none H hT (k := nI b) (a := nI a) (fun r h1 z => by rw [nI_eq (by omega) (by omega)] at z; omega)
    refine ⟨f6, f10, ?_, fun _ _ => rfl, fun z => absurd z (by omega), fun r h1 h2 => absurd h2 (by omega)⟩
    rw [e, pz_b2]
    unfold fL_ranks_L84
    rw [pg_many hn hM, pz_b2, if_neg (nI_nlt (by omega) (by omega)), if_pos rfl, pz_nm, nI_1]
