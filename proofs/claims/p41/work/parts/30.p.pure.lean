-- cup, lamp, cat: placing
def pNw (k f m : Int32) : Nat → Int32 := fun j => if j = 0 then k else if j = 1 then f else if j = 2 then m else 0
def sPut (k : Int32) (f m : Nat) (S : pSt) : pSt := (sN S + 1, pUp (sP S) (sN S) (pNw k (nI f) (nI m)), sQ S, sL S, sG S)
theorem pNw_W {k : Int32} {f m : Nat} (T : Nat) (hk : k = 1 ∨ k = 2 ∨ k = 3) (hf : f < 5) (hm : m ≤ 9) (hl : (if k = 3 then 0 else 1) ≤ m) : pWF T (pNw k (nI f) (nI m)) := by
  refine ⟨f, m, 0, 0, 0, ⟨hf, hm, by omega, by omega⟩, rfl, rfl, rfl, rfl, rfl, ?_⟩
  rcases hk with rfl | rfl | rfl
  · exact Or.inl ⟨rfl, hl, by omega, rfl, rfl⟩
  · exact Or.inr (Or.inl ⟨rfl, hl, by omega, rfl⟩)
  · exact Or.inr (Or.inr ⟨rfl, rfl, rfl, rfl⟩)
theorem sPut_W {T : Nat} {k : Int32} {f m : Nat} {S : pSt} (hk : k = 1 ∨ k = 2 ∨ k = 3) (hf : f < 5) (hm : m ≤ 9) (hl : (if k = 3 then 0 else 1) ≤ m) (hn : sN S < 12) (hc : pCn (sP S) k (nI f) (sN S) < 5) (H : pW T S) : pW T (sPut k f m S) := by
  obtain ⟨h1, h2, h3, h4, h5, h6⟩ := H
  refine ⟨hn, fun j hj => ?_, h3, h4, h5, fun f' hf' k' hk' => ?_⟩
  · have hj' : j < sN S + 1 := hj
    show pWF T (pUp (sP S) (sN S) (pNw k (nI f) (nI m)) j)
    by_cases z : j = sN S
    · subst z; rw [pUp_i]; exact pNw_W T hk hf hm hl
    · rw [pUp_n _ _ z]; exact h2 j (by omega)
  · have e : pCn (pUp (sP S) (sN S) (pNw k (nI f) (nI m))) k' (nI f') (sN S) = pCn (sP S) k' (nI f') (sN S) := pCn_eq k' (nI f') _ (fun j hj => by
      rw [pUp_n _ _ (by omega)]; exact ⟨rfl, rfl⟩)
    show pCn (pUp (sP S) (sN S) (pNw k (nI f) (nI m))) k' (nI f') (sN S) + _ ≤ 5
    have eu : sP (sPut k f m S) (sN S) = pNw k (nI f) (nI m) := pUp_i _ _ _
    rw [e, eu]
    have := h6 f' hf' k' hk'
    split
    · rename_i q
      have q0 : k = k' := q.1
      have q1 : nI f = nI f' := q.2
      rw [← q0, ← q1]; omega
    · omega
theorem pc_begin {w : qMem} {c : Nat} {k f m : Int32} : ∃ g : Nat → Int32, fX3_begin w c k f m = some (qur w c g) ∧ pAg g (pNw k f m) := by
  unfold fX3_begin
  simp only [pz_nm, pz_wr (w := w), pz_qq]
  refine ⟨_, rfl, fun j hj => ?_⟩
  rcases j with _ | _ | _ | _ | _ | _ | _ | j
  · simp [upd, pNw]
  · simp [upd, pNw]
  · simp [upd, pNw]
  · simp [upd, pNw]
  · simp [upd, pNw]
  · simp [upd, pNw]
  · simp [upd, pNw]
  · omega
