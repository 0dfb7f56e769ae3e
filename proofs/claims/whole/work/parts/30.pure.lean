theorem pure_run (xs : Nat → Int32) (n : Nat) (h : n ≤ 512) : qrun xs n 0 qw0 := sorry
