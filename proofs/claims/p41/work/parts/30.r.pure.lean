-- calls that only look
theorem ph_cg2 {w w' : qMem} {h T : Nat} {S : pSt} (hW : pW T S) (e : ∀ c, 19 * h ≤ c → c < 19 * h + 16 → w' c = w c) (H : pH w h S) : pH w' h S := by
  obtain ⟨hn, hP, hq, hL, hG, _⟩ := hW
  obtain ⟨⟨H1, H2⟩, H3, H4, H5⟩ := H
  have e0 : w' (19 * h) = w (19 * h) := e _ (by omega) (by omega)
  exact ⟨⟨by rw [e0]; exact H1, fun i hi k hk => by rw [e _ (by omega) (by omega)]; exact H2 i hi k hk⟩, by rw [e0]; exact H3, fun j hj => by rw [e _ (by omega) (by omega)]; exact H4 j hj, fun k hk => by rw [e0]; exact H5 k hk⟩
