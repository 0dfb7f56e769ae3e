-- the law's own half: all five
theorem pure_law {L : Nat} {xs : Nat → Int32} (hL : L < 2 ^ 31) : lw_pure L xs := by
  obtain ⟨w1, S1, e1, H1, h1, h2, hB⟩ := pure_drawn (L := L) (xs := xs) hL
  obtain ⟨w2, e2, H2⟩ := pure_shaken H1
  obtain ⟨w3, e3, H3⟩ := pure_ranks H2 (by decide) hB h1
  obtain ⟨w4, e4, H4⟩ := pure_lines H3
  obtain ⟨w5, e5⟩ := pure_undone hL H4
  exact ⟨w1, w2, w3, w4, w5, e1, e2, e3, e4, e5⟩
