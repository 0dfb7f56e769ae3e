-- cue
def pUp (P : Nat → Nat → Int32) (i : Nat) (p : Nat → Int32) : Nat → Nat → Int32 := fun j => if j = i then p else P j
theorem pUp_i (P : Nat → Nat → Int32) (i : Nat) (p : Nat → Int32) : pUp P i p i = p := if_pos rfl
theorem pUp_n (P : Nat → Nat → Int32) {i j : Nat} (p : Nat → Int32) (h : j ≠ i) : pUp P i p j = P j := if_neg h
def sCue (i : Nat) (v : Int32) (S : pSt) : pSt := (sN S, pUp (sP S) i (upd (sP S i) 5 v), sQ S, sL S, sG S)
theorem sCue_W {T i c : Nat} {S : pSt} (hi : i < sN S) (hc : c ≤ 9) (h0 : sP S i 0 = 2) (H : pW T S) : pW T (sCue i (nI c) S) := by
  obtain ⟨h1, h2, h3, h4, h5, h6⟩ := H
  refine ⟨h1, fun j hj => ?_, h3, h4, h5, fun f hf k hk => ?_⟩
  · show pWF T (pUp (sP S) i (upd (sP S i) 5 (nI c)) j)
    by_cases z : j = i
    · subst z
      rw [pUp_i]
      obtain ⟨f, m, d, c', t, ⟨b1, b2, b3, b4⟩, g1, g2, g3, g5, g6, g | g | g⟩ := h2 j hi
      · exact absurd (g.1.symm.trans h0) (by decide)
      · exact ⟨f, m, d, c, t, ⟨b1, b2, hc, b4⟩, g1, g2, g3, pz_u, g6, Or.inr (Or.inl g)⟩
      · exact absurd (g.1.symm.trans h0) (by decide)
    · rw [pUp_n _ _ z]; exact h2 j hj
  · have e : pCn (sP (sCue i (nI c) S)) k (nI f) (sN S) = pCn (sP S) k (nI f) (sN S) := pCn_eq k (nI f) _ (fun j _ => by
      show pUp (sP S) i (upd (sP S i) 5 (nI c)) j 0 = _ ∧ pUp (sP S) i (upd (sP S i) 5 (nI c)) j 1 = _
      by_cases z : j = i
      · subst z; rw [pUp_i]; exact ⟨rfl, rfl⟩
      · rw [pUp_n _ _ z]; exact ⟨rfl, rfl⟩)
    show pCn (sP (sCue i (nI c) S)) k (nI f) (sN S) ≤ 5
    rw [e]; exact h6 f hf k hk
theorem pH_up {w : qMem} {i : Nat} {g p : Nat → Int32} {S : pSt} (hn : sN S ≤ 12) (hi : i < sN S) (hg : pAg g p) (H : pH w 0 S) : pH (qur w (2 + i) g) 0 (sN S, pUp (sP S) i p, sQ S, sL S, sG S) := by
  obtain ⟨⟨H1, H2⟩, H3, H4, H5⟩ := H
  refine ⟨⟨by rw [pz_rn (by omega)]; exact H1, fun j hj => ?_⟩, by rw [pz_rn (by omega)]; exact H3, fun j hj => by rw [pz_rn (by omega)]; exact H4 j hj, fun k hk => by rw [pz_rn (by omega)]; exact H5 k hk⟩
  show pAg _ (pUp (sP S) i p j)
  by_cases z : j = i
  · subst z
    have e : 19 * 0 + 2 + j = 2 + j := by omega
    rw [e, pz_r, pUp_i]; exact hg
  · rw [pz_rn (by omega), pUp_n _ _ z]; exact H2 j hj
