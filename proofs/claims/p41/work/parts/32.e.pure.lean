-- an order with no, one, two numbers
theorem pc_ro2 {w w3 : qMem} {i j : Nat} (hi : i < 12) (hj : j = 0 ∨ j = 1 ∨ j = 2 ∨ j = 3 ∨ j = 4 ∨ j = 5 ∨ j = 7) (e : fX4_readWord w = some (nI (j + 1), w3)) : fX4_readOrder w (nI i) = fX4_readOrder_L93 (quw (quw (quw w3 233 i (nI (j + 1))) 234 i 0) 235 i 0) (nI i) (nI (j + 1)) (if decide (nI j = 3 ∨ nI j = 4) = true then 2 else 1) (nI i) := by
  rw [pc_rdo hi (by omega) e]
  rcases hj with h | h | h | h | h | h | h
  · subst h
    rw [show (if decide (nI 0 = 3 ∨ nI 0 = 4) = true then (2 : Int32) else 1) = 1 by decide]
    rw [if_neg (show ¬ nI (0 + 1) = (7 : Int32) by decide), if_neg (show ¬ nI (0 + 1) = (9 : Int32) by decide), if_neg (show ¬ nI (0 + 1) = (10 : Int32) by decide), if_neg (show ¬ nI (0 + 1) = (4 : Int32) by decide), if_neg (show ¬ nI (0 + 1) = (5 : Int32) by decide)]
  · subst h
    rw [show (if decide (nI 1 = 3 ∨ nI 1 = 4) = true then (2 : Int32) else 1) = 1 by decide]
    rw [if_neg (show ¬ nI (1 + 1) = (7 : Int32) by decide), if_neg (show ¬ nI (1 + 1) = (9 : Int32) by decide), if_neg (show ¬ nI (1 + 1) = (10 : Int32) by decide), if_neg (show ¬ nI (1 + 1) = (4 : Int32) by decide), if_neg (show ¬ nI (1 + 1) = (5 : Int32) by decide)]
  · subst h
    rw [show (if decide (nI 2 = 3 ∨ nI 2 = 4) = true then (2 : Int32) else 1) = 1 by decide]
    rw [if_neg (show ¬ nI (2 + 1) = (7 : Int32) by decide), if_neg (show ¬ nI (2 + 1) = (9 : Int32) by decide), if_neg (show ¬ nI (2 + 1) = (10 : Int32) by decide), if_neg (show ¬ nI (2 + 1) = (4 : Int32) by decide), if_neg (show ¬ nI (2 + 1) = (5 : Int32) by decide)]
  · subst h
    rw [show (if decide (nI 3 = 3 ∨ nI 3 = 4) = true then (2 : Int32) else 1) = 2 by decide]
    rw [if_neg (show ¬ nI (3 + 1) = (7 : Int32) by decide), if_neg (show ¬ nI (3 + 1) = (9 : Int32) by decide), if_neg (show ¬ nI (3 + 1) = (10 : Int32) by decide), if_pos (show nI (3 + 1) = (4 : Int32) from rfl)]
  · subst h
    rw [show (if decide (nI 4 = 3 ∨ nI 4 = 4) = true then (2 : Int32) else 1) = 2 by decide]
    rw [if_neg (show ¬ nI (4 + 1) = (7 : Int32) by decide), if_neg (show ¬ nI (4 + 1) = (9 : Int32) by decide), if_neg (show ¬ nI (4 + 1) = (10 : Int32) by decide), if_neg (show ¬ nI (4 + 1) = (4 : Int32) by decide), if_pos (show nI (4 + 1) = (5 : Int32) from rfl)]
  · subst h
    rw [show (if decide (nI 5 = 3 ∨ nI 5 = 4) = true then (2 : Int32) else 1) = 1 by decide]
    rw [if_neg (show ¬ nI (5 + 1) = (7 : Int32) by decide), if_neg (show ¬ nI (5 + 1) = (9 : Int32) by decide), if_neg (show ¬ nI (5 + 1) = (10 : Int32) by decide), if_neg (show ¬ nI (5 + 1) = (4 : Int32) by decide), if_neg (show ¬ nI (5 + 1) = (5 : Int32) by decide)]
  · subst h
    rw [show (if decide (nI 7 = 3 ∨ nI 7 = 4) = true then (2 : Int32) else 1) = 1 by decide]
    rw [if_neg (show ¬ nI (7 + 1) = (7 : Int32) by decide), if_neg (show ¬ nI (7 + 1) = (9 : Int32) by decide), if_neg (show ¬ nI (7 + 1) = (10 : Int32) by decide), if_neg (show ¬ nI (7 + 1) = (4 : Int32) by decide), if_neg (show ¬ nI (7 + 1) = (5 : Int32) by decide)]
