-- what a prop keeps to
def pAg (p q : Nat → Int32) : Prop := ∀ k, k < 7 → p k = q k
def pWF (T : Nat) (p : Nat → Int32) : Prop :=
  ∃ f m d c t : Nat, (f < 5 ∧ m ≤ 9 ∧ c ≤ 9 ∧ t ≤ T) ∧ p 1 = nI f ∧ p 2 = nI m ∧ p 3 = nI d ∧ p 5 = nI c ∧ p 6 = nI t ∧
    ((p 0 = 1 ∧ 1 ≤ m ∧ d ≤ 3 ∧ p 4 = (if d = 3 then 1 else 0) ∧ c = 0) ∨ (p 0 = 2 ∧ 1 ≤ m ∧ d ≤ 40 ∧ p 4 = (if 20 < d then 1 else 0)) ∨ (p 0 = 3 ∧ d = 0 ∧ p 4 = 0 ∧ c = 0))
theorem pAg.rf (p : Nat → Int32) : pAg p p := fun _ _ => rfl
theorem pAg.tr {p q r : Nat → Int32} (h : pAg p q) (h1 : pAg q r) : pAg p r := fun k hk => (h k hk).trans (h1 k hk)
theorem pAg.sy {p q : Nat → Int32} (h : pAg p q) : pAg q p := fun k hk => (h k hk).symm
theorem pAg.up {p q : Nat → Int32} (h : pAg p q) (k : Nat) {v v' : Int32} (e : v = v') : pAg (upd p k v) (upd q k v') := by
  intro j hj
  by_cases hk : j = k
  · subst hk; rw [pz_u, pz_u, e]
  · rw [pz_un hk, pz_un hk, h j hj]
theorem pAg.cupR {p q : Nat → Int32} (h : pAg p q) (r : Int32) : pCupR r p = pCupR r q := by
  unfold pCupR; rw [h 4 (by decide), h 2 (by decide), h 3 (by decide)]
theorem pAg.cupN {p q : Nat → Int32} (h : pAg p q) (r : Int32) : pAg (pCupN r p) (pCupN r q) := by
  unfold pCupN; rw [h 4 (by decide), h 2 (by decide), h 3 (by decide), h 6 (by decide)]
  split
  · split
    · split
      · exact h
      · exact h.up 6 rfl
    · exact ((h.up 3 rfl).up 2 rfl).up 4 rfl
  · exact h
theorem pAg.sw {p q : Nat → Int32} (h : pAg p q) (r a : Int32) : pSw r a p = pSw r a q := by
  unfold pSw; rw [h 5 (by decide), h 3 (by decide), h 2 (by decide)]
theorem pAg.lampR {p q : Nat → Int32} (h : pAg p q) (r a : Int32) : pLampR r a p = pLampR r a q := by
  unfold pLampR; rw [h 4 (by decide), h.sw]
theorem pAg.lampN {p q : Nat → Int32} (h : pAg p q) (r a : Int32) : pAg (pLampN r a p) (pLampN r a q) := by
  unfold pLampN; rw [h 4 (by decide), h.sw]
  split
  · exact (h.up 3 rfl).up 4 rfl
  · exact h
theorem pAg.catM {p q : Nat → Int32} (h : pAg p q) (r f : Int32) : pCatM r f p = pCatM r f q := by
  unfold pCatM pDist; rw [h 2 (by decide)]
theorem pAg.catN {p q : Nat → Int32} (h : pAg p q) (r f : Int32) : pAg (pCatN r f p) (pCatN r f q) := by
  unfold pCatN; rw [h.catM, h 6 (by decide), h 2 (by decide)]
  split
  · exact h.up 6 rfl
  · exact h.up 2 rfl
theorem pWF.ag {T : Nat} {p q : Nat → Int32} (h : pWF T p) (e : pAg p q) : pWF T q := by
  unfold pWF at h ⊢
  rw [← e 0 (by decide), ← e 1 (by decide), ← e 2 (by decide), ← e 3 (by decide), ← e 4 (by decide), ← e 5 (by decide), ← e 6 (by decide)]
  exact h
theorem pWF.mo {T T' : Nat} {p : Nat → Int32} (h : pWF T p) (e : T ≤ T') : pWF T' p := by
  obtain ⟨f, m, d, c, t, ⟨h1, h2, h3, h4⟩, h5⟩ := h
  exact ⟨f, m, d, c, t, ⟨h1, h2, h3, by omega⟩, h5⟩
theorem pWF.b4 {T : Nat} {p : Nat → Int32} (h : pWF T p) : p 4 = 0 ∨ p 4 = 1 := by
  obtain ⟨f, m, d, c, t, hb, h1, h2, h3, h5, h6, h | h | h⟩ := h
  · rw [h.2.2.2.1]; split <;> simp
  · rw [h.2.2.2]; split <;> simp
  · exact Or.inl h.2.2.1
theorem pWF.fl {T : Nat} {p : Nat → Int32} (h : pWF T p) : ∃ f, f < 5 ∧ p 1 = nI f := by
  obtain ⟨f, m, d, c, t, hb, h1, h2⟩ := h
  exact ⟨f, hb.1, h1⟩
theorem pWF.k {T : Nat} {p : Nat → Int32} (h : pWF T p) : p 0 = 1 ∨ p 0 = 2 ∨ p 0 = 3 := by
  obtain ⟨f, m, d, c, t, hb, h1, h2, h3, h5, h6, h | h | h⟩ := h
  · exact Or.inl h.1
  · exact Or.inr (Or.inl h.1)
  · exact Or.inr (Or.inr h.1)
theorem pt_1 : ∀ d, d < 4 → (if d = 3 then (1 : Int32) else 0) = 0 → ((nI d + 1 = 3) ↔ ¬ nI d + 1 < 3) := by decide +kernel
theorem pt_2 : ∀ m, m < 10 → 1 ≤ m → (if 1 < nI m - 1 then nI m - 1 else 1) = (if nI m ≤ 1 then 1 else nI m - 1) := by decide +kernel
theorem pt_3 : ∀ m, m < 41 → (if 0 < nI m - 1 then nI m - 1 else 0) = (if nI m ≤ 0 then 0 else nI m - 1) := by decide +kernel
theorem pt_4 : ∀ m, m < 10 → ∀ r, r < 10 → (if 0 < (5 : Int32) - (if 0 ≤ nI m - nI r then nI m - nI r else 0 - (nI m - nI r)) then (5 : Int32) - (if 0 ≤ nI m - nI r then nI m - nI r else 0 - (nI m - nI r)) else 0) = (if 0 ≤ (5 : Int32) - (if 0 ≤ nI m - nI r then nI m - nI r else 0 - (nI m - nI r)) then (5 : Int32) - (if 0 ≤ nI m - nI r then nI m - nI r else 0 - (nI m - nI r)) else 0) := by decide +kernel
theorem pt_5 : ∀ m, m < 10 → ∀ r, r < 10 → ∃ x, x ≤ 5 ∧ (if 0 ≤ (5 : Int32) - (if 0 ≤ nI m - nI r then nI m - nI r else 0 - (nI m - nI r)) then (5 : Int32) - (if 0 ≤ nI m - nI r then nI m - nI r else 0 - (nI m - nI r)) else 0) = nI x := by
  have : ∀ m, m < 10 → ∀ r, r < 10 → ∃ x, x < 6 ∧ (if 0 ≤ (5 : Int32) - (if 0 ≤ nI m - nI r then nI m - nI r else 0 - (nI m - nI r)) then (5 : Int32) - (if 0 ≤ nI m - nI r then nI m - nI r else 0 - (nI m - nI r)) else 0) = nI x := by decide +kernel
  intro m hm r hr
  obtain ⟨x, hx, e⟩ := this m hm r hr
  exact ⟨x, by omega, e⟩
theorem pt_6 : ∀ m, m < 10 → ∀ r, r < 10 → 0 < r → nI m - nI m / nI r * nI r = nI (m % r) := by decide +kernel
theorem pt_7 : ∀ d, d < 60 → nI d / 2 = nI (d / 2) := by decide +kernel
theorem pt_8 : ∀ d, d < 60 → (nI d ≤ 20 ↔ d ≤ 20) := by decide +kernel
theorem pt_9 : ∀ d, d < 60 → (if nI d ≤ 0 then 0 else nI d - 1) = nI (d - 1) := by decide +kernel
theorem pt_10 : ∀ d, d < 10 → (if nI d ≤ 1 then 1 else nI d - 1) = nI (if d ≤ 1 then 1 else d - 1) := by decide +kernel
theorem pt_11 : ∀ d, d < 4 → (if d = 3 then (1 : Int32) else 0) = 0 → (if nI d + 1 < 3 then (0 : Int32) else 1) = (if d + 1 = 3 then 1 else 0) ∧ d + 1 ≤ 3 := by decide +kernel
theorem pCupR_b (r : Int32) (p : Nat → Int32) : pCupR r p = 0 ∨ pCupR r p = 1 := by
  unfold pCupR; split
  · split
    · exact Or.inl rfl
    · split
      · exact Or.inl rfl
      · exact Or.inr rfl
  · exact Or.inl rfl
theorem pLampR_b (r a : Int32) (p : Nat → Int32) : pLampR r a p = 0 ∨ pLampR r a p = 1 := by
  unfold pLampR; split
  · split
    · exact Or.inl rfl
    · exact Or.inr rfl
  · exact Or.inl rfl
theorem pWF.cup {T : Nat} {p : Nat → Int32} (h : pWF T p) (h0 : p 0 = 1) (r : Int32) : pWF (T + 1) (pCupN r p) := by
  obtain ⟨f, m, d, c, t, ⟨b1, b2, b3, b4⟩, h1, h2, h3, h5, h6, h | h | h⟩ := h
  · obtain ⟨_, hm, hd, e4, hc⟩ := h
    unfold pCupN
    by_cases k4 : p 4 = 0
    · simp only [k4, ↓reduceIte]
      by_cases k2 : r < p 2
      · simp only [k2, ↓reduceIte]
        by_cases k3 : 2 * r < p 2
        · simp only [k3, ↓reduceIte]
          exact ⟨f, m, d, c, t, ⟨b1, b2, b3, by omega⟩, h1, h2, h3, h5, h6, Or.inl ⟨h0, hm, hd, e4, hc⟩⟩
        · simp only [k3, ↓reduceIte]
          exact ⟨f, m, d, c, t + 1, ⟨b1, b2, b3, by omega⟩, h1, h2, h3, h5, by rw [pz_u, h6, nI_1], Or.inl ⟨h0, hm, hd, e4, hc⟩⟩
      · simp only [k2, ↓reduceIte]
        have q := pt_11 d (by omega) (e4 ▸ k4)
        refine ⟨f, if m ≤ 1 then 1 else m - 1, d + 1, c, t, ⟨b1, by split <;> omega, b3, by omega⟩, h1, ?_, ?_, h5, h6, Or.inl ⟨h0, by split <;> omega, q.2, ?_, hc⟩⟩
        · rw [pz_un (by decide), pz_u, h2]; exact pt_10 m (by omega)
        · rw [pz_un (by decide), pz_un (by decide), pz_u, h3, nI_1]
        · rw [pz_u, h3]; exact q.1
    · simp only [k4, ↓reduceIte]
      exact ⟨f, m, d, c, t, ⟨b1, b2, b3, by omega⟩, h1, h2, h3, h5, h6, Or.inl ⟨h0, hm, hd, e4, hc⟩⟩
  · rw [h.1] at h0; cases h0
  · rw [h.1] at h0; cases h0
theorem pSw_v {r m d : Nat} {a : Int32} {p : Nat → Int32} (hr : r ≤ 9) (hm : m ≤ 9) (hd : d ≤ 20) (h2 : p 2 = nI m) (h3 : p 3 = nI d) : ∃ v, v ≤ 40 ∧ pSw (nI r) a p = nI v := by
  unfold pSw
  rw [h2, h3, pt_9 d (by omega)]
  have key : ∃ v, v ≤ 40 ∧ (if nI r ≤ 0 then nI (d - 1) else (nI d + nI r) + (nI m - nI m / nI r * nI r)) = nI v := by
    by_cases h0 : r = 0
    · subst h0
      exact ⟨d - 1, by omega, if_pos (by decide)⟩
    · refine ⟨d + r + m % r, ?_, ?_⟩
      · have := Nat.mod_lt m (y := r) (by omega)
        omega
      · rw [if_neg (nI_nle (by omega) (by omega)), pt_6 m (by omega) r (by omega) (by omega), nI_add, nI_add]
  obtain ⟨v, hv, e⟩ := key
  rw [e]
  split
  · exact ⟨v / 2, by omega, pt_7 v (by omega)⟩
  · exact ⟨v, hv, rfl⟩
theorem pWF.lamp {T : Nat} {p : Nat → Int32} (h : pWF T p) (h0 : p 0 = 2) {r : Nat} (hr : r ≤ 9) (a : Int32) : pWF T (pLampN (nI r) a p) := by
  obtain ⟨f, m, d, c, t, ⟨b1, b2, b3, b4⟩, h1, h2, h3, h5, h6, h | h | h⟩ := h
  · rw [h.1] at h0; cases h0
  · obtain ⟨_, hm, hd, e4⟩ := h
    unfold pLampN
    by_cases k4 : p 4 = 0
    · simp only [k4, ↓reduceIte]
      have hd2 : d ≤ 20 := by
        by_cases q : 20 < d
        · rw [e4, if_pos q] at k4; cases k4
        · omega
      obtain ⟨v, hv, e⟩ := pSw_v (a := a) hr b2 hd2 h2 h3
      rw [e]
      refine ⟨f, m, v, c, t, ⟨b1, b2, b3, b4⟩, h1, h2, rfl, h5, h6, Or.inr (Or.inl ⟨h0, hm, hv, ?_⟩)⟩
      rw [pz_u]
      by_cases q : v ≤ 20
      · rw [if_pos ((pt_8 v (by omega)).mpr q), if_neg (by omega)]
      · rw [if_neg (fun z => q ((pt_8 v (by omega)).mp z)), if_pos (by omega)]
    · simp only [k4, ↓reduceIte]
      exact ⟨f, m, d, c, t, ⟨b1, b2, b3, by omega⟩, h1, h2, h3, h5, h6, Or.inr (Or.inl ⟨h0, hm, hd, e4⟩)⟩
  · rw [h.1] at h0; cases h0
theorem pWF.cat {T : Nat} {p : Nat → Int32} (h : pWF T p) (h0 : p 0 = 3) {r : Nat} (hr : r ≤ 9) (fr : Int32) : pWF (T + 5) (pCatN (nI r) fr p) := by
  obtain ⟨f, m, d, c, t, ⟨b1, b2, b3, b4⟩, h1, h2, h3, h5, h6, h | h | h⟩ := h
  · rw [h.1] at h0; cases h0
  · rw [h.1] at h0; cases h0
  · obtain ⟨_, hd, e4, hc⟩ := h
    unfold pCatN
    by_cases k4 : fr = 0
    · simp only [k4, ↓reduceIte]
      obtain ⟨x, hx, e⟩ := pt_5 m (by omega) r (by omega)
      have e' : pCatM (nI r) 0 p = nI x := by
        unfold pCatM pDist
        rw [if_pos rfl, h2]; exact e
      exact ⟨f, m, d, c, t + x, ⟨b1, b2, b3, by omega⟩, h1, h2, h3, h5, by rw [pz_u, h6, e', nI_add], Or.inr (Or.inr ⟨h0, hd, e4, hc⟩)⟩
    · simp only [k4, ↓reduceIte]
      exact ⟨f, m - 1, d, c, t, ⟨b1, by omega, b3, by omega⟩, h1, by rw [pz_u, h2, pt_9 m (by omega)], h3, h5, h6, Or.inr (Or.inr ⟨h0, hd, e4, hc⟩)⟩
