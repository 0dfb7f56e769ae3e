theorem lq_lt {i : Int32} {n : Nat} (h : qin i n = true) : i.toNatClampNeg < n := Nat.not_le.mp fun q => (qin_t h) (Or.inr q)
theorem lq_nn {i : Int32} {n : Nat} (h : qin i n = true) : ¬ i < 0 := fun q => (qin_t h) (Or.inl q)
theorem qisB_nar {x : Int32} (h : qisB x = true) : vp_nar .boolean x = x := by
  have := (qisB_ok h).1
  simp only [vp_nar, this]
