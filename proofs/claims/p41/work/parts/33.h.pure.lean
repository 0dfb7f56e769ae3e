section
variable {n : Nat} {a2 : Int32} {k17 : (Nat → Nat → Int32) → (Nat → Int32) → Int32 → Int32 → Int32 → Int32 → Option ((Nat → Int32) × (Nat → Nat → Int32))} {M : Nat → Nat → Int32} {f1 : Nat → Int32} {x1 x3 x5 x6 x8 x9 s0 s1 : Int32} {j fl : Nat}
theorem pg_295 (h1 : M j 1 = nI fl) (hfl : fl < 5) : fL_shocks_L295 n a2 k17 M f1 x1 x3 x5 x6 j s0 4 j = k17 (quw M j 4 s0) (upd f1 fl (if f1 fl = 0 then (if s0 = 1 then 1 else 0) else 1)) x1 (x3 + s0) x5 (x6 + 1) := by
  have q1 : quw M j 4 s0 j 1 = nI fl := by rw [pz_wk (by decide)]; exact h1
  have q5 := pz_qin hfl (show 5 < 2 ^ 31 by decide)
  unfold fL_shocks_L295
  rw [if_pos (by decide), show (4 : Int32).toNatClampNeg = 4 from rfl, pz_nm, pz_w, pz_nm, q1, if_pos q5, pz_nI (by omega)]
  by_cases z : f1 fl = 0
  · rw [if_pos z, if_pos z]
    by_cases y : s0 = 1
    · rw [if_pos y, if_pos y, if_pos q5, pz_nm, pz_nm]
    · rw [if_neg y, if_neg y, if_pos q5, pz_nm, pz_nm]
  · rw [if_neg z, if_neg z, if_pos q5, pz_nm, pz_nm]
theorem pg_277 : fL_shocks_L277 n a2 k17 M f1 x1 x3 x5 x6 j s0 3 j = fL_shocks_L295 n a2 k17 (quw M j 3 s0) f1 x1 x3 x5 x6 j (if s0 ≤ 20 then 0 else 1) 4 j := by
  unfold fL_shocks_L277
  rw [if_pos (by decide), show (3 : Int32).toNatClampNeg = 3 from rfl, pz_nm, pz_w]
  split <;> rfl
theorem pg_252 : fL_shocks_L252 n a2 k17 M f1 x1 x3 x5 x6 j s0 3 j = fL_shocks_L277 n a2 k17 (quw M j 3 s0) f1 x1 x3 x5 x6 j (if M j 5 = x1 then s0 / 2 else s0) 3 j := by
  unfold fL_shocks_L252
  rw [if_pos (by decide), show (3 : Int32).toNatClampNeg = 3 from rfl, pz_nm, pz_wk (by decide), pz_w]
  split <;> rfl
theorem pg_lamp {T r a : Nat} {q : Nat → Int32} (hr : r ≤ 9) (ha : pAg (M j) q) (hq : pWF T q) (h0 : q 0 = 2) (h4 : q 4 = 0) (h1 : q 1 = nI fl) (hfl : fl < 5) : ∃ M' : Nat → Nat → Int32, fL_shocks_L201 n a2 k17 M f1 (nI a) x3 x5 x6 j (nI r) = k17 M' (upd f1 fl (if f1 fl = 0 then (if pLampR (nI r) (nI a) q = 1 then 1 else 0) else 1)) (nI a) (x3 + pLampR (nI r) (nI a) q) x5 (x6 + 1) ∧ (∀ c, c ≠ j → M' c = M c) ∧ pAg (M' j) (pLampN (nI r) (nI a) q) := by
  have m : ∀ k, k < 7 → M j k = q k := ha
  obtain ⟨f, mm, d, c, t, ⟨b1, b2, b3, b4⟩, g1, g2, g3, g5, g6, h | h | h⟩ := hq
  · rw [h.1] at h0; cases h0
  rotate_left
  · rw [h.1] at h0; cases h0
  obtain ⟨-, hm1, hd, e4⟩ := h
  have eS : (if M j 5 = nI a then (if nI r = 0 then (if (0 : Int32) < M j 3 - 1 then M j 3 - 1 else 0) else (M j 3 + nI r) + (M j 2 - M j 2 / nI r * nI r)) / 2 else (if nI r = 0 then (if (0 : Int32) < M j 3 - 1 then M j 3 - 1 else 0) else (M j 3 + nI r) + (M j 2 - M j 2 / nI r * nI r))) = pSw (nI r) (nI a) q := by
    unfold pSw
    rw [m 5 (by decide), m 3 (by decide), m 2 (by decide)]
    have er : (nI r = 0) ↔ (nI r ≤ 0) := by
      constructor
      · intro h; rw [h]; decide
      · intro h
        have : r = 0 := by
          have h2 := Classical.byContradiction fun h9 : ¬ r ≤ 0 => nI_ge (a := 0) (b := r) (by omega) (by omega) h
          omega
        rw [this]; rfl
    have e3 : (if (0 : Int32) < q 3 - 1 then q 3 - 1 else 0) = if q 3 ≤ 0 then 0 else q 3 - 1 := by
      rw [g3]; exact pt_3 d (by omega)
    rw [e3]
    by_cases z : nI r = 0
    · rw [if_pos z, if_pos (er.mp z)]
    · rw [if_neg z, if_neg (fun y => z (er.mpr y))]
  have fin : ∀ s : Int32, (if M j 5 = nI a then s / 2 else s) = pSw (nI r) (nI a) q → fL_shocks_L252 n a2 k17 M f1 (nI a) x3 x5 x6 j s 3 j = k17 (quw (quw (quw M j 3 s) j 3 (pSw (nI r) (nI a) q)) j 4 (if pSw (nI r) (nI a) q ≤ 20 then 0 else 1)) (upd f1 fl (if f1 fl = 0 then (if (if pSw (nI r) (nI a) q ≤ 20 then (0 : Int32) else 1) = 1 then 1 else 0) else 1)) (nI a) (x3 + (if pSw (nI r) (nI a) q ≤ 20 then 0 else 1)) x5 (x6 + 1) := by
    intro s hs
    rw [pg_252, hs, pg_277, pg_295 (fl := fl) (by rw [pz_wk (by decide), pz_wk (by decide), m 1 (by decide)]; exact h1) hfl]
  have eR : pLampR (nI r) (nI a) q = if pSw (nI r) (nI a) q ≤ 20 then 0 else 1 := by unfold pLampR; rw [if_pos h4]
  have eN : pLampN (nI r) (nI a) q = upd (upd q 3 (pSw (nI r) (nI a) q)) 4 (if pSw (nI r) (nI a) q ≤ 20 then 0 else 1) := by unfold pLampN; rw [if_pos h4]
  have row : ∀ s : Int32, pAg (quw (quw (quw M j 3 s) j 3 (pSw (nI r) (nI a) q)) j 4 (if pSw (nI r) (nI a) q ≤ 20 then 0 else 1) j) (pLampN (nI r) (nI a) q) := by
    intro s k hk
    rw [eN]
    by_cases z : k = 4
    · subst z; rw [pz_w, pz_u]
    · rw [pz_wk z, pz_un z]
      by_cases y : k = 3
      · subst y; rw [pz_w, pz_u]
      · rw [pz_wk y, pz_wk y, pz_un y, m k hk]
  have off : ∀ s v3 v4 : Int32, ∀ c, c ≠ j → quw (quw (quw M j 3 s) j 3 v3) j 4 v4 c = M c := fun s v3 v4 c hc => by
    rw [pz_wr, pz_rn hc, pz_wr, pz_rn hc, pz_wr, pz_rn hc]
  rw [eR]
  unfold fL_shocks_L201
  rw [if_pos (by rw [m 0 (by decide)]; exact h0), if_pos (by rw [m 4 (by decide)]; exact h4)]
  by_cases z : nI r = 0
  · rw [if_pos z, pz_nm, fin _ (by rw [← eS, if_pos z])]
    exact ⟨_, rfl, off _ _ _, row _⟩
  · rw [if_neg z, if_neg z, fin _ (by rw [← eS, if_neg z])]
    exact ⟨_, rfl, off _ _ _, row _⟩
theorem pg_else (h : ¬ (M j 0 = 2 ∧ M j 4 = 0)) : fL_shocks_L201 n a2 k17 M f1 x1 x3 x5 x6 j x8 = k17 M f1 x1 x3 x5 (x6 + 1) := by
  unfold fL_shocks_L201
  by_cases z : M j 0 = 2
  · rw [if_pos z, if_neg (fun y => h ⟨z, y⟩), pz_nm]
  · rw [if_neg z, pz_nm]
end
/-- what breaks of a prop by a shock -/
def pBb (n a : Nat) (P : Nat → Nat → Int32) (i : Nat) : Int32 := pBc (pRe P n a) P i + pBl (pRe P n a) (nI a) (pP1 n a P) i
/-- the floors where something of the first i props breaks -/
def pBf (n a : Nat) (P : Nat → Nat → Int32) (F : Nat → Int32) (i : Nat) : Prop := ∀ f, (F f = 0 ∨ F f = 1) ∧ (F f = 1 ↔ ∃ k, k < i ∧ (P k 1).toNatClampNeg = f ∧ pBb n a P k = 1)
theorem pFr_iff {b : Nat → Int32} {P : Nat → Nat → Int32} {F0 : Nat → Int32} : ∀ (n f : Nat), pFr b P F0 n f = 1 ↔ F0 f = 1 ∨ ∃ k, k < n ∧ (P k 1).toNatClampNeg = f ∧ ¬ b k = 0
  | 0, f => ⟨fun h => Or.inl h, fun h => h.elim id (fun ⟨k, hk, _⟩ => absurd hk (Nat.not_lt_zero k))⟩
  | n + 1, f => by
    by_cases z : b n = 0
    · rw [pFr_0 z, pFr_iff n f]
      constructor
      · rintro (h | ⟨k, h1, h2, h3⟩)
        · exact Or.inl h
        · exact Or.inr ⟨k, by omega, h2, h3⟩
      · rintro (h | ⟨k, h1, h2, h3⟩)
        · exact Or.inl h
        · by_cases y : k = n
          · subst y; exact absurd z h3
          · exact Or.inr ⟨k, by omega, h2, h3⟩
    · rw [pFr_1 z]
      by_cases y : f = (P n 1).toNatClampNeg
      · subst y
        rw [pz_u]
        exact ⟨fun _ => Or.inr ⟨n, by omega, rfl, z⟩, fun _ => rfl⟩
      · rw [pz_un y, pFr_iff n f]
        constructor
        · rintro (h | ⟨k, h1, h2, h3⟩)
          · exact Or.inl h
          · exact Or.inr ⟨k, by omega, h2, h3⟩
        · rintro (h | ⟨k, h1, h2, h3⟩)
          · exact Or.inl h
          · by_cases q : k = n
            · subst q; exact absurd h2.symm y
            · exact Or.inr ⟨k, by omega, h2, h3⟩
theorem pBb_v (n a : Nat) (P : Nat → Nat → Int32) (i : Nat) : (pBc (pRe P n a) P i = 0 ∧ pBl (pRe P n a) (nI a) (pP1 n a P) i = 0 ∧ pBb n a P i = 0) ∨ ((pBc (pRe P n a) P i = 1 ∧ pBl (pRe P n a) (nI a) (pP1 n a P) i = 0 ∨ pBc (pRe P n a) P i = 0 ∧ pBl (pRe P n a) (nI a) (pP1 n a P) i = 1) ∧ pBb n a P i = 1) := by
  unfold pBb pBc pBl
  by_cases k1 : P i 0 = 1
  · rw [if_pos k1, if_neg (show ¬ pP1 n a P i 0 = 2 by rw [(pP1_0 n a P i).1, k1]; decide)]
    rcases pCupR_b (nI (pRe P n a (P i 1).toNatClampNeg)) (P i) with h | h
    · rw [h]; exact Or.inl ⟨rfl, rfl, rfl⟩
    · rw [h]; exact Or.inr ⟨Or.inl ⟨rfl, rfl⟩, rfl⟩
  · rw [if_neg k1]
    by_cases k2 : pP1 n a P i 0 = 2
    · rw [if_pos k2]
      rcases pLampR_b (nI (pRe P n a (pP1 n a P i 1).toNatClampNeg)) (nI a) (pP1 n a P i) with h | h
      · rw [h]; exact Or.inl ⟨rfl, rfl, rfl⟩
      · rw [h]; exact Or.inr ⟨Or.inr ⟨rfl, rfl⟩, rfl⟩
    · rw [if_neg k2]; exact Or.inl ⟨rfl, rfl, rfl⟩
theorem pBf_F2 {n a : Nat} {P : Nat → Nat → Int32} {F : Nat → Int32} (h : pBf n a P F n) (f : Nat) : F f = pF2 n a P f := by
  have e1 : pF2 n a P f = 1 ↔ ∃ k, k < n ∧ (P k 1).toNatClampNeg = f ∧ pBb n a P k = 1 := by
    unfold pF2 pF1
    rw [pFr_iff, pFr_iff]
    constructor
    · rintro ((h | ⟨k, h1, h2, h3⟩) | ⟨k, h1, h2, h3⟩)
      · exact absurd h (by decide)
      · refine ⟨k, h1, h2, ?_⟩
        rcases pBb_v n a P k with ⟨q, -, -⟩ | ⟨-, q⟩
        · exact absurd q h3
        · exact q
      · refine ⟨k, h1, by rw [← (pP1_0 n a P k).2]; exact h2, ?_⟩
        rcases pBb_v n a P k with ⟨-, q, -⟩ | ⟨-, q⟩
        · exact absurd q h3
        · exact q
    · rintro ⟨k, h1, h2, h3⟩
      rcases pBb_v n a P k with ⟨-, -, q⟩ | ⟨q | q, -⟩
      · rw [q] at h3; exact absurd h3 (by decide)
      · exact Or.inl (Or.inr ⟨k, h1, h2, by rw [q.1]; decide⟩)
      · exact Or.inr ⟨k, h1, by rw [(pP1_0 n a P k).2]; exact h2, by rw [q.2]; decide⟩
  have e2 : pF2 n a P f = 0 ∨ pF2 n a P f = 1 := by
    unfold pF2 pF1
    exact pFr_b (fun g => pFr_b (fun _ => Or.inl rfl) n g) n f
  obtain ⟨h1, h2⟩ := h f
  by_cases z : F f = 1
  · rw [z, e1.mpr (h2.mp z)]
  · have z0 : F f = 0 := h1.elim id (fun y => absurd y z)
    rcases e2 with y | y
    · rw [z0, y]
    · exact absurd (h2.mpr (e1.mp y)) z
theorem pBf_step {n a i fl : Nat} {P : Nat → Nat → Int32} {F : Nat → Int32} {v : Int32} (h : pBf n a P F i) (e1 : P i 1 = nI fl) (hfl : fl < 5) (hv : v = pBb n a P i) : pBf n a P (upd F fl (if F fl = 0 then (if v = 1 then 1 else 0) else 1)) (i + 1) := by
  have c5 : (P i 1).toNatClampNeg = fl := by rw [e1]; exact pz_nI (by omega)
  intro f
  obtain ⟨h1, h2⟩ := h f
  by_cases z : f = fl
  · subst z
    rw [pz_u]
    by_cases y : F f = 0
    · rw [if_pos y]
      by_cases x : v = 1
      · rw [if_pos x]
        exact ⟨Or.inr rfl, fun _ => ⟨i, by omega, c5, by rw [← hv]; exact x⟩, fun _ => rfl⟩
      · rw [if_neg x]
        refine ⟨Or.inl rfl, fun q => absurd q (by decide), fun ⟨k, k1, k2, k3⟩ => ?_⟩
        by_cases q : k = i
        · subst q; exact absurd (hv.trans k3) x
        · have := h2.mpr ⟨k, by omega, k2, k3⟩
          rw [y] at this; exact absurd this (by decide)
    · rw [if_neg y]
      have y1 : F f = 1 := h1.elim (fun q => absurd q y) id
      obtain ⟨k, k1, k2, k3⟩ := h2.mp y1
      exact ⟨Or.inr rfl, fun _ => ⟨k, by omega, k2, k3⟩, fun _ => rfl⟩
  · rw [pz_un z]
    refine ⟨h1, fun q => ?_, fun ⟨k, k1, k2, k3⟩ => ?_⟩
    · obtain ⟨k, k1, k2, k3⟩ := h2.mp q
      exact ⟨k, by omega, k2, k3⟩
    · by_cases q : k = i
      · subst q; exact absurd (k2.symm.trans c5) z
      · exact h2.mpr ⟨k, by omega, k2, k3⟩
theorem pBf_stay {n a i : Nat} {P : Nat → Nat → Int32} {F : Nat → Int32} (h : pBf n a P F i) (hv : pBb n a P i = 0) : pBf n a P F (i + 1) := by
  intro f
  obtain ⟨h1, h2⟩ := h f
  refine ⟨h1, fun q => ?_, fun ⟨k, k1, k2, k3⟩ => ?_⟩
  · obtain ⟨k, k1, k2, k3⟩ := h2.mp q
    exact ⟨k, by omega, k2, k3⟩
  · by_cases q : k = i
    · subst q; rw [hv] at k3; exact absurd k3 (by decide)
    · exact h2.mpr ⟨k, by omega, k2, k3⟩
theorem pBb_sum (n a : Nat) (P : Nat → Nat → Int32) : pSum (pBb n a P) n = pBr n a P := pSum_add _ _ n
