-- the reference's shock
theorem pm_1 : ∀ m, m < 32 → ∀ f, f < 5 → (((nI m >>> (nI f &&& 31)) &&& 1 = 1) ↔ m.testBit f = true) ∧ nI m ||| (1 <<< (nI f &&& 31)) = nI (m ||| 2 ^ f) ∧ m ||| 2 ^ f < 32 ∧ ∀ g, g < 5 → (m ||| 2 ^ f).testBit g = (m.testBit g || decide (g = f)) := by decide +kernel
theorem pm_2 : ∀ m, m < 32 → nI m ||| 0 = nI m := by decide +kernel
def pMs (m : Int32) (F : Nat → Int32) : Prop := ∃ u, u < 32 ∧ m = nI u ∧ ∀ f, f < 5 → F f = if u.testBit f = true then 1 else 0
theorem pMs.or0 {m : Int32} {F : Nat → Int32} (h : pMs m F) : m ||| 0 = m := by
  obtain ⟨u, hu, e, _⟩ := h
  rw [e, pm_2 u hu]
theorem pMs.or1 {m : Int32} {F : Nat → Int32} (h : pMs m F) {f : Nat} (hf : f < 5) : pMs (m ||| (1 <<< (nI f &&& 31))) (upd F f 1) := by
  obtain ⟨u, hu, e, hF⟩ := h
  obtain ⟨q1, q2, q3, q4⟩ := pm_1 u hu f hf
  refine ⟨u ||| 2 ^ f, q3, by rw [e, q2], fun g hg => ?_⟩
  rw [q4 g hg]
  by_cases z : g = f
  · subst z; rw [pz_u, decide_eq_true rfl, Bool.or_true, if_pos rfl]
  · rw [pz_un z, hF g hg, decide_eq_false z, Bool.or_false]
theorem pMs.t {m : Int32} {F : Nat → Int32} (h : pMs m F) {f : Nat} (hf : f < 5) : F f = if (m >>> (nI f &&& 31)) &&& 1 = 1 then 1 else 0 := by
  obtain ⟨u, hu, e, hF⟩ := h
  obtain ⟨q1, _⟩ := pm_1 u hu f hf
  rw [hF f hf, e]
  by_cases z : u.testBit f = true
  · rw [if_pos z, if_pos (q1.mpr z)]
  · rw [if_neg z, if_neg (fun y => z (q1.mp y))]
theorem pzS_R (s : Nat → Int32) (i : Nat) (g : Nat → Int32) : pAg (pzS (pzR s i g) i) g := fun k hk => pzR_k _ _ _ _ hk
theorem pzS_Rn (s : Nat → Int32) (i j : Nat) (g : Nat → Int32) (h : j ≠ i) : pAg (pzS (pzR s i g) j) (pzS s j) := fun k hk => pzR_n _ _ _ _ (by omega)
theorem pz_stepB {A A' N P : Nat → Nat → Int32} {n i : Nat} (H : ∀ j, j < n → pAg (A j) (if j < i then N j else P j)) (h1 : ∀ j, j < n → j ≠ i → pAg (A' j) (A j)) (h2 : pAg (A' i) (N i)) : ∀ j, j < n → pAg (A' j) (if j < i + 1 then N j else P j) := by
  intro j hj
  by_cases q : j = i
  · subst q; rw [if_pos (by omega)]; exact h2
  · refine (h1 j hj q).tr ?_
    have := H j hj
    by_cases q2 : j < i
    · rw [if_pos q2] at this; rw [if_pos (by omega)]; exact this
    · rw [if_neg q2] at this; rw [if_neg (by omega)]; exact this
